/-! ===== weak contracts: marks ===== -/
def s_X4_mark : Sp := wspV 4 4 (fun as Z => match as with
    | [.inr (.inr a0), .inl a1, .inl a2, .inl a3] => ((a0 = 78)) ∧ (True) ∧ (True) ∧ (True) ∧ True
    | _ => False) (fun as => match as with
    | [.inr (.inr a0), .inl a1, .inl a2, .inl a3] => [79]
    | _ => [])
set_option maxRecDepth 100000 in
set_option maxHeartbeats 40000000 in
theorem c_X4_mark {l : Launch} {D : va_G} {cA : Nat → ClassId} : PM l D cA yX4_mark cX4_mark 5 none 0 0 s_X4_mark := by
  refine of_X4_mark  (fun as σ hwf hao hpre => ?_)
  obtain ⟨n, Z, R⟩ := σ
  obtain ⟨hR, hI, hpre⟩ := hpre
  obtain rfl : R = R0 := hR
  rcases as with _ | ⟨x | x | a0, _ | ⟨a1 | x | x, _ | ⟨a2 | x | x, _ | ⟨a3 | x | x, _ | ⟨v, t⟩⟩⟩⟩⟩ <;> first | exact (hpre : False).elim | skip
  obtain ⟨k1l, k1u⟩ : okI a1 := hao (vi a1) (by simp)
  obtain ⟨k2l, k2u⟩ : okI a2 := hao (vi a2) (by simp)
  obtain ⟨k3l, k3u⟩ : okI a3 := hao (vi a3) (by simp)
  obtain ⟨h0, h1, h2, h3, -⟩ := hpre
  have hk : keeps ([79]) Z Z := keeps_refl
  refine ⟨Nat.le_of_ble_eq_true rfl, fun G hG => ?_⟩
  clear hao hwf
  obtain rfl := h0
  refine wq_run hG n R0 [] 900 _ _ _ _ ?_
  repeat' (first
      | with_reducible rfl
      | refine And.intro ?_ ?_
      | with_reducible exact True.intro
      | ((with_reducible show _ = true); rfl)
      | ((with_reducible show recvG _ _); rfl)
      | ((with_reducible show CI _); first | with_reducible assumption | assumption)
      | (fail_if_success (first | (with_reducible show _ ≤ _) | (with_reducible show _ = _) | (with_reducible show _ ∨ _) | (with_reducible show _ < _) | (with_reducible show G _ _ _ _))
         first
         | show G _ _ _ _
         | (intro (Z2 : ZT) hZ2; have hZ3 : Z' = Z2 := hZ2.symm; subst hZ3)
         | (intro (Z2 : ZT) hZ2; have hZ3 : Z1 = Z2 := hZ2.symm; subst hZ3)
         | (intro (Z2 : ZT) hZ2; have hZ3 : Z = Z2 := hZ2.symm; subst hZ3)
         | (refine ld_bnd (by first | with_reducible assumption | assumption) rfl ?_; intro _ _ _ _)
         | (refine st_bnd (by first | with_reducible assumption | assumption) (by first | with_reducible assumption | assumption) (by decide) (fun lo hi hb => by first | (cases hb; done) | (cases hb; constructor <;> (first | omega | (simp (disch := omega) only [w32_id, w64_id]; omega) | (simp (disch := omega) only [w32_id, w64_id] at *; omega) | (simp only [w32, w64] at *; omega) | exact (and32_le (by omega) (by omega)).1 | exact (and32_le (by omega) (by omega)).2 | exact (mulR (by omega) (by omega) (by omega) (by omega)).1 | exact (mulR (by omega) (by omega) (by omega) (by omega)).2 | (subst_vars; simp [upZ] at *; omega) | (subst_vars; simp [upZ] at *; simp only [w32, w64] at *; omega)))) ?_; intro Z' _ _ _)
         | (intro (r : Option PV) σ' hq
            first
            | (obtain ⟨rfl, rfl⟩ := hq)
            | (obtain ⟨Z', x, rfl, rfl, hI2, hk2, hl2, hu2⟩ := hq; have hk3 := keeps_to (by first | with_reducible assumption | assumption) (by rfl) hk2; clear hk2)
            | (obtain ⟨Z', x, rfl, rfl, hI2, hk2⟩ := hq; have hk3 := keeps_to (by first | with_reducible assumption | assumption) (by rfl) hk2; clear hk2)
            | (rcases hq with ⟨Z', rfl, rfl, hI2, hk2⟩ | ⟨Z', rfl, rfl, hI2, hk2⟩ <;> (have hk3 := keeps_to (by first | with_reducible assumption | assumption) (by rfl) hk2; clear hk2))
            | (obtain ⟨Z', rfl, rfl, hI2, hk2⟩ := hq; have hk3 := keeps_to (by first | with_reducible assumption | assumption) (by rfl) hk2; clear hk2))
         | (intro hc; (try simp only [cmp3_c] at hc); simp only [cmpI] at hc)
         | (show CI _; assumption)
         | intro (_ : Int)
         | intro (Z' : ZT)
         | intro (_ : CI _)
         | intro (_ : keeps _ _ _)
         | intro (_ : _ ≤ _)
         | intro (_ : _ = _)
         | intro (_ : _ < _)
         | intro (_ : _ ∨ _)))
  all_goals first
    | with_reducible rfl
    | ((with_reducible show _ = _); rfl)
    | ((with_reducible show recvG _ _); rfl)
    | with_reducible exact trivial
    | ((fail_if_success (first | (with_reducible show _ ≤ _) | (with_reducible show _ = _) | (with_reducible show _ ∨ _) | (with_reducible show _ < _) | (with_reducible show G _ _ _ _))); (refine Exists.intro _ (And.intro rfl (And.intro rfl (And.intro ?_ ?_)))) <;> with_reducible assumption)
    | ((fail_if_success (first | (with_reducible show _ ≤ _) | (with_reducible show _ = _) | (with_reducible show _ ∨ _) | (with_reducible show _ < _) | (with_reducible show G _ _ _ _))); exact Exists.intro _ (Exists.intro _ ⟨rfl, rfl, by assumption, by assumption, by (first | omega | (simp (disch := omega) only [w32_id, w64_id]; omega) | (simp (disch := omega) only [w32_id, w64_id] at *; omega) | (simp only [w32, w64] at *; omega) | exact (and32_le (by omega) (by omega)).1 | exact (and32_le (by omega) (by omega)).2 | exact (mulR (by omega) (by omega) (by omega) (by omega)).1 | exact (mulR (by omega) (by omega) (by omega) (by omega)).2 | (subst_vars; simp [upZ] at *; omega) | (subst_vars; simp [upZ] at *; simp only [w32, w64] at *; omega)), by (first | omega | (simp (disch := omega) only [w32_id, w64_id]; omega) | (simp (disch := omega) only [w32_id, w64_id] at *; omega) | (simp only [w32, w64] at *; omega) | exact (and32_le (by omega) (by omega)).1 | exact (and32_le (by omega) (by omega)).2 | exact (mulR (by omega) (by omega) (by omega) (by omega)).1 | exact (mulR (by omega) (by omega) (by omega) (by omega)).2 | (subst_vars; simp [upZ] at *; omega) | (subst_vars; simp [upZ] at *; simp only [w32, w64] at *; omega))⟩))
    | ((fail_if_success (first | (with_reducible show _ ≤ _) | (with_reducible show _ = _) | (with_reducible show _ ∨ _) | (with_reducible show _ < _) | (with_reducible show G _ _ _ _))); exact Exists.intro _ (Exists.intro _ ⟨rfl, rfl, by assumption, by assumption⟩))
    | ((fail_if_success (first | (with_reducible show _ ≤ _) | (with_reducible show _ = _) | (with_reducible show _ ∨ _) | (with_reducible show _ < _) | (with_reducible show G _ _ _ _))); exact Exists.intro _ ⟨rfl, rfl, by assumption, by assumption⟩)
    | ((fail_if_success (first | (with_reducible show _ ≤ _) | (with_reducible show _ = _) | (with_reducible show _ ∨ _) | (with_reducible show _ < _) | (with_reducible show G _ _ _ _))); exact Or.inl (Exists.intro _ ⟨rfl, rfl, by assumption, by assumption⟩))
    | ((fail_if_success (first | (with_reducible show _ ≤ _) | (with_reducible show _ = _) | (with_reducible show _ ∨ _) | (with_reducible show _ < _) | (with_reducible show G _ _ _ _))); exact Or.inr (Exists.intro _ ⟨rfl, rfl, by assumption, by assumption⟩))
    | omega
    | rfl
    | exact trivial
    | decide
    | (show (0 : Int) < _; omega)
    | (show (0 : Int) < _; simp only [w64] at *; omega)
    | (simp only [w32, w64] at *; omega)
    | (first | omega | (simp (disch := omega) only [w32_id, w64_id]; omega) | (simp (disch := omega) only [w32_id, w64_id] at *; omega) | (simp only [w32, w64] at *; omega) | exact (and32_le (by omega) (by omega)).1 | exact (and32_le (by omega) (by omega)).2 | exact (mulR (by omega) (by omega) (by omega) (by omega)).1 | exact (mulR (by omega) (by omega) (by omega) (by omega)).2 | (subst_vars; simp [upZ] at *; omega) | (subst_vars; simp [upZ] at *; simp only [w32, w64] at *; omega))
    | skip
def s_X4_markGaps : Sp := wspV 3 4 (fun as Z => match as with
    | [.inr (.inr a0), .inr (.inr a1), .inl a2] => ((a0 = 78)) ∧ ((a1 = 18)) ∧ (True) ∧ True
    | _ => False) (fun as => match as with
    | [.inr (.inr a0), .inr (.inr a1), .inl a2] => [79]
    | _ => [])
set_option maxRecDepth 100000 in
set_option maxHeartbeats 40000000 in
theorem c_X4_markGaps {l : Launch} {D : va_G} {cA : Nat → ClassId} : PM l D cA yX4_markGaps cX4_markGaps 4 none 2 45 s_X4_markGaps := by
  refine of_X4_markGaps (c_X7_isGap) ⟨rfl, rfl⟩ (c_X4_mark) ⟨rfl, rfl⟩ (fun as σ hwf hao hpre => ?_)
  obtain ⟨n, Z, R⟩ := σ
  obtain ⟨hR, hI, hpre⟩ := hpre
  obtain rfl : R = R0 := hR
  rcases as with _ | ⟨x | x | a0, _ | ⟨x | x | a1, _ | ⟨a2 | x | x, _ | ⟨v, t⟩⟩⟩⟩ <;> first | exact (hpre : False).elim | skip
  obtain ⟨k2l, k2u⟩ : okI a2 := hao (vi a2) (by simp)
  obtain ⟨h0, h1, h2, -⟩ := hpre
  have hk : keeps ([79]) Z Z := keeps_refl
  refine ⟨Nat.le_of_ble_eq_true rfl, fun G hG => ?_⟩
  clear hao hwf
  obtain rfl := h0
  obtain rfl := h1
  have loop : ∀ fuel : Nat, (∀ (Z1 : ZT) (v3 : Int), CI Z1 → keeps ([79]) Z Z1 → ((0 ≤ v3 ∧ v3 ≤ 4) ∧ True) → 5 - v3 ≤ (fuel : Int) → G 2 [(0, vr 78), (1, vr 18), (2, vi a2), (3, vi v3)] [] (n, Z1, R0)) := by
    intro fuel
    induction fuel with
    | zero => exact (by intros; omega)
    | succ fuel ih =>
      have ih2 := ih
      · intro Z1 v3 hI1 hk1 hv hm
        obtain ⟨w0, -⟩ := hv
        clear hk hI
        refine wq_run hG n R0 [2] 900 _ _ _ _ ?_
        repeat' (first
            | with_reducible rfl
            | refine And.intro ?_ ?_
            | with_reducible exact True.intro
            | ((with_reducible show _ = true); rfl)
            | ((with_reducible show recvG _ _); rfl)
            | ((with_reducible show CI _); first | with_reducible assumption | assumption)
            | (fail_if_success (first | (with_reducible show _ ≤ _) | (with_reducible show _ = _) | (with_reducible show _ ∨ _) | (with_reducible show _ < _) | (with_reducible show G _ _ _ _))
               first
               | show G _ _ _ _
               | (intro (Z2 : ZT) hZ2; have hZ3 : Z' = Z2 := hZ2.symm; subst hZ3)
               | (intro (Z2 : ZT) hZ2; have hZ3 : Z1 = Z2 := hZ2.symm; subst hZ3)
               | (intro (Z2 : ZT) hZ2; have hZ3 : Z = Z2 := hZ2.symm; subst hZ3)
               | (refine ld_bnd (by first | with_reducible assumption | assumption) rfl ?_; intro _ _ _ _)
               | (refine st_bnd (by first | with_reducible assumption | assumption) (by first | with_reducible assumption | assumption) (by decide) (fun lo hi hb => by first | (cases hb; done) | (cases hb; constructor <;> (first | omega | (simp (disch := omega) only [w32_id, w64_id]; omega) | (simp (disch := omega) only [w32_id, w64_id] at *; omega) | (simp only [w32, w64] at *; omega) | exact (and32_le (by omega) (by omega)).1 | exact (and32_le (by omega) (by omega)).2 | exact (mulR (by omega) (by omega) (by omega) (by omega)).1 | exact (mulR (by omega) (by omega) (by omega) (by omega)).2 | (subst_vars; simp [upZ] at *; omega) | (subst_vars; simp [upZ] at *; simp only [w32, w64] at *; omega)))) ?_; intro Z' _ _ _)
               | (intro (r : Option PV) σ' hq
                  first
                  | (obtain ⟨rfl, rfl⟩ := hq)
                  | (obtain ⟨Z', x, rfl, rfl, hI2, hk2, hl2, hu2⟩ := hq; have hk3 := keeps_to (by first | with_reducible assumption | assumption) (by rfl) hk2; clear hk2)
                  | (obtain ⟨Z', x, rfl, rfl, hI2, hk2⟩ := hq; have hk3 := keeps_to (by first | with_reducible assumption | assumption) (by rfl) hk2; clear hk2)
                  | (rcases hq with ⟨Z', rfl, rfl, hI2, hk2⟩ | ⟨Z', rfl, rfl, hI2, hk2⟩ <;> (have hk3 := keeps_to (by first | with_reducible assumption | assumption) (by rfl) hk2; clear hk2))
                  | (obtain ⟨Z', rfl, rfl, hI2, hk2⟩ := hq; have hk3 := keeps_to (by first | with_reducible assumption | assumption) (by rfl) hk2; clear hk2))
               | (intro hc; (try simp only [cmp3_c] at hc); simp only [cmpI] at hc)
               | (show CI _; assumption)
               | intro (_ : Int)
               | intro (Z' : ZT)
               | intro (_ : CI _)
               | intro (_ : keeps _ _ _)
               | intro (_ : _ ≤ _)
               | intro (_ : _ = _)
               | intro (_ : _ < _)
               | intro (_ : _ ∨ _)))
        all_goals first
          | with_reducible rfl
          | ((with_reducible show _ = _); rfl)
          | ((with_reducible show recvG _ _); rfl)
          | with_reducible exact trivial
          | ((fail_if_success (first | (with_reducible show _ ≤ _) | (with_reducible show _ = _) | (with_reducible show _ ∨ _) | (with_reducible show _ < _) | (with_reducible show G _ _ _ _))); (refine Exists.intro _ (And.intro rfl (And.intro rfl (And.intro ?_ ?_)))) <;> with_reducible assumption)
          | ((with_reducible show G 2 _ _ _); exact hG.2 2 _ [(0, vr 78), (1, vr 18), (2, vi a2), (3, vi _)] _ _ rfl (ih2 _ _ (by assumption) (by assumption) (by refine ⟨by first | omega | (refine ⟨?_, ?_⟩ <;> (first | omega | (simp (disch := omega) only [w32_id, w64_id]; omega) | (simp (disch := omega) only [w32_id, w64_id] at *; omega) | (simp only [w32, w64] at *; omega) | exact (and32_le (by omega) (by omega)).1 | exact (and32_le (by omega) (by omega)).2 | exact (mulR (by omega) (by omega) (by omega) (by omega)).1 | exact (mulR (by omega) (by omega) (by omega) (by omega)).2 | (subst_vars; simp [upZ] at *; omega) | (subst_vars; simp [upZ] at *; simp only [w32, w64] at *; omega))) | (first | omega | (simp (disch := omega) only [w32_id, w64_id]; omega) | (simp (disch := omega) only [w32_id, w64_id] at *; omega) | (simp only [w32, w64] at *; omega) | exact (and32_le (by omega) (by omega)).1 | exact (and32_le (by omega) (by omega)).2 | exact (mulR (by omega) (by omega) (by omega) (by omega)).1 | exact (mulR (by omega) (by omega) (by omega) (by omega)).2 | (subst_vars; simp [upZ] at *; omega) | (subst_vars; simp [upZ] at *; simp only [w32, w64] at *; omega)), trivial⟩) (by first | omega | (simp (disch := omega) only [w32_id, w64_id]; omega) | (simp (disch := omega) only [w32_id, w64_id] at *; omega) | (simp only [w32, w64] at *; omega) | exact (and32_le (by omega) (by omega)).1 | exact (and32_le (by omega) (by omega)).2 | exact (mulR (by omega) (by omega) (by omega) (by omega)).1 | exact (mulR (by omega) (by omega) (by omega) (by omega)).2 | (subst_vars; simp [upZ] at *; omega) | (subst_vars; simp [upZ] at *; simp only [w32, w64] at *; omega))))
          | ((fail_if_success (first | (with_reducible show _ ≤ _) | (with_reducible show _ = _) | (with_reducible show _ ∨ _) | (with_reducible show _ < _) | (with_reducible show G _ _ _ _))); exact Exists.intro _ (Exists.intro _ ⟨rfl, rfl, by assumption, by assumption, by (first | omega | (simp (disch := omega) only [w32_id, w64_id]; omega) | (simp (disch := omega) only [w32_id, w64_id] at *; omega) | (simp only [w32, w64] at *; omega) | exact (and32_le (by omega) (by omega)).1 | exact (and32_le (by omega) (by omega)).2 | exact (mulR (by omega) (by omega) (by omega) (by omega)).1 | exact (mulR (by omega) (by omega) (by omega) (by omega)).2 | (subst_vars; simp [upZ] at *; omega) | (subst_vars; simp [upZ] at *; simp only [w32, w64] at *; omega)), by (first | omega | (simp (disch := omega) only [w32_id, w64_id]; omega) | (simp (disch := omega) only [w32_id, w64_id] at *; omega) | (simp only [w32, w64] at *; omega) | exact (and32_le (by omega) (by omega)).1 | exact (and32_le (by omega) (by omega)).2 | exact (mulR (by omega) (by omega) (by omega) (by omega)).1 | exact (mulR (by omega) (by omega) (by omega) (by omega)).2 | (subst_vars; simp [upZ] at *; omega) | (subst_vars; simp [upZ] at *; simp only [w32, w64] at *; omega))⟩))
          | ((fail_if_success (first | (with_reducible show _ ≤ _) | (with_reducible show _ = _) | (with_reducible show _ ∨ _) | (with_reducible show _ < _) | (with_reducible show G _ _ _ _))); exact Exists.intro _ (Exists.intro _ ⟨rfl, rfl, by assumption, by assumption⟩))
          | ((fail_if_success (first | (with_reducible show _ ≤ _) | (with_reducible show _ = _) | (with_reducible show _ ∨ _) | (with_reducible show _ < _) | (with_reducible show G _ _ _ _))); exact Exists.intro _ ⟨rfl, rfl, by assumption, by assumption⟩)
          | ((fail_if_success (first | (with_reducible show _ ≤ _) | (with_reducible show _ = _) | (with_reducible show _ ∨ _) | (with_reducible show _ < _) | (with_reducible show G _ _ _ _))); exact Or.inl (Exists.intro _ ⟨rfl, rfl, by assumption, by assumption⟩))
          | ((fail_if_success (first | (with_reducible show _ ≤ _) | (with_reducible show _ = _) | (with_reducible show _ ∨ _) | (with_reducible show _ < _) | (with_reducible show G _ _ _ _))); exact Or.inr (Exists.intro _ ⟨rfl, rfl, by assumption, by assumption⟩))
          | omega
          | rfl
          | exact trivial
          | decide
          | (show (0 : Int) < _; omega)
          | (show (0 : Int) < _; simp only [w64] at *; omega)
          | (simp only [w32, w64] at *; omega)
          | (first | omega | (simp (disch := omega) only [w32_id, w64_id]; omega) | (simp (disch := omega) only [w32_id, w64_id] at *; omega) | (simp only [w32, w64] at *; omega) | exact (and32_le (by omega) (by omega)).1 | exact (and32_le (by omega) (by omega)).2 | exact (mulR (by omega) (by omega) (by omega) (by omega)).1 | exact (mulR (by omega) (by omega) (by omega) (by omega)).2 | (subst_vars; simp [upZ] at *; omega) | (subst_vars; simp [upZ] at *; simp only [w32, w64] at *; omega))
          | skip
  refine wq_run hG n R0 [2] 900 _ _ _ _ ?_
  repeat' (first
      | with_reducible rfl
      | refine And.intro ?_ ?_
      | with_reducible exact True.intro
      | ((with_reducible show _ = true); rfl)
      | ((with_reducible show recvG _ _); rfl)
      | ((with_reducible show CI _); first | with_reducible assumption | assumption)
      | (fail_if_success (first | (with_reducible show _ ≤ _) | (with_reducible show _ = _) | (with_reducible show _ ∨ _) | (with_reducible show _ < _) | (with_reducible show G _ _ _ _))
         first
         | show G _ _ _ _
         | (intro (Z2 : ZT) hZ2; have hZ3 : Z' = Z2 := hZ2.symm; subst hZ3)
         | (intro (Z2 : ZT) hZ2; have hZ3 : Z1 = Z2 := hZ2.symm; subst hZ3)
         | (intro (Z2 : ZT) hZ2; have hZ3 : Z = Z2 := hZ2.symm; subst hZ3)
         | (refine ld_bnd (by first | with_reducible assumption | assumption) rfl ?_; intro _ _ _ _)
         | (refine st_bnd (by first | with_reducible assumption | assumption) (by first | with_reducible assumption | assumption) (by decide) (fun lo hi hb => by first | (cases hb; done) | (cases hb; constructor <;> (first | omega | (simp (disch := omega) only [w32_id, w64_id]; omega) | (simp (disch := omega) only [w32_id, w64_id] at *; omega) | (simp only [w32, w64] at *; omega) | exact (and32_le (by omega) (by omega)).1 | exact (and32_le (by omega) (by omega)).2 | exact (mulR (by omega) (by omega) (by omega) (by omega)).1 | exact (mulR (by omega) (by omega) (by omega) (by omega)).2 | (subst_vars; simp [upZ] at *; omega) | (subst_vars; simp [upZ] at *; simp only [w32, w64] at *; omega)))) ?_; intro Z' _ _ _)
         | (intro (r : Option PV) σ' hq
            first
            | (obtain ⟨rfl, rfl⟩ := hq)
            | (obtain ⟨Z', x, rfl, rfl, hI2, hk2, hl2, hu2⟩ := hq; have hk3 := keeps_to (by first | with_reducible assumption | assumption) (by rfl) hk2; clear hk2)
            | (obtain ⟨Z', x, rfl, rfl, hI2, hk2⟩ := hq; have hk3 := keeps_to (by first | with_reducible assumption | assumption) (by rfl) hk2; clear hk2)
            | (rcases hq with ⟨Z', rfl, rfl, hI2, hk2⟩ | ⟨Z', rfl, rfl, hI2, hk2⟩ <;> (have hk3 := keeps_to (by first | with_reducible assumption | assumption) (by rfl) hk2; clear hk2))
            | (obtain ⟨Z', rfl, rfl, hI2, hk2⟩ := hq; have hk3 := keeps_to (by first | with_reducible assumption | assumption) (by rfl) hk2; clear hk2))
         | (intro hc; (try simp only [cmp3_c] at hc); simp only [cmpI] at hc)
         | (show CI _; assumption)
         | intro (_ : Int)
         | intro (Z' : ZT)
         | intro (_ : CI _)
         | intro (_ : keeps _ _ _)
         | intro (_ : _ ≤ _)
         | intro (_ : _ = _)
         | intro (_ : _ < _)
         | intro (_ : _ ∨ _)))
  all_goals (have lp2 := loop 1000000)
  all_goals first
    | with_reducible rfl
    | ((with_reducible show _ = _); rfl)
    | ((with_reducible show recvG _ _); rfl)
    | with_reducible exact trivial
    | ((fail_if_success (first | (with_reducible show _ ≤ _) | (with_reducible show _ = _) | (with_reducible show _ ∨ _) | (with_reducible show _ < _) | (with_reducible show G _ _ _ _))); (refine Exists.intro _ (And.intro rfl (And.intro rfl (And.intro ?_ ?_)))) <;> with_reducible assumption)
    | ((with_reducible show G 2 _ _ _); exact hG.2 2 _ [(0, vr 78), (1, vr 18), (2, vi a2), (3, vi _)] _ _ rfl (lp2 _ _ (by assumption) (by assumption) (by refine ⟨by first | omega | (refine ⟨?_, ?_⟩ <;> (first | omega | (simp (disch := omega) only [w32_id, w64_id]; omega) | (simp (disch := omega) only [w32_id, w64_id] at *; omega) | (simp only [w32, w64] at *; omega) | exact (and32_le (by omega) (by omega)).1 | exact (and32_le (by omega) (by omega)).2 | exact (mulR (by omega) (by omega) (by omega) (by omega)).1 | exact (mulR (by omega) (by omega) (by omega) (by omega)).2 | (subst_vars; simp [upZ] at *; omega) | (subst_vars; simp [upZ] at *; simp only [w32, w64] at *; omega))) | (first | omega | (simp (disch := omega) only [w32_id, w64_id]; omega) | (simp (disch := omega) only [w32_id, w64_id] at *; omega) | (simp only [w32, w64] at *; omega) | exact (and32_le (by omega) (by omega)).1 | exact (and32_le (by omega) (by omega)).2 | exact (mulR (by omega) (by omega) (by omega) (by omega)).1 | exact (mulR (by omega) (by omega) (by omega) (by omega)).2 | (subst_vars; simp [upZ] at *; omega) | (subst_vars; simp [upZ] at *; simp only [w32, w64] at *; omega)), trivial⟩) (by first | omega | (simp (disch := omega) only [w32_id, w64_id]; omega) | (simp (disch := omega) only [w32_id, w64_id] at *; omega) | (simp only [w32, w64] at *; omega) | exact (and32_le (by omega) (by omega)).1 | exact (and32_le (by omega) (by omega)).2 | exact (mulR (by omega) (by omega) (by omega) (by omega)).1 | exact (mulR (by omega) (by omega) (by omega) (by omega)).2 | (subst_vars; simp [upZ] at *; omega) | (subst_vars; simp [upZ] at *; simp only [w32, w64] at *; omega))))
    | ((fail_if_success (first | (with_reducible show _ ≤ _) | (with_reducible show _ = _) | (with_reducible show _ ∨ _) | (with_reducible show _ < _) | (with_reducible show G _ _ _ _))); exact Exists.intro _ (Exists.intro _ ⟨rfl, rfl, by assumption, by assumption, by (first | omega | (simp (disch := omega) only [w32_id, w64_id]; omega) | (simp (disch := omega) only [w32_id, w64_id] at *; omega) | (simp only [w32, w64] at *; omega) | exact (and32_le (by omega) (by omega)).1 | exact (and32_le (by omega) (by omega)).2 | exact (mulR (by omega) (by omega) (by omega) (by omega)).1 | exact (mulR (by omega) (by omega) (by omega) (by omega)).2 | (subst_vars; simp [upZ] at *; omega) | (subst_vars; simp [upZ] at *; simp only [w32, w64] at *; omega)), by (first | omega | (simp (disch := omega) only [w32_id, w64_id]; omega) | (simp (disch := omega) only [w32_id, w64_id] at *; omega) | (simp only [w32, w64] at *; omega) | exact (and32_le (by omega) (by omega)).1 | exact (and32_le (by omega) (by omega)).2 | exact (mulR (by omega) (by omega) (by omega) (by omega)).1 | exact (mulR (by omega) (by omega) (by omega) (by omega)).2 | (subst_vars; simp [upZ] at *; omega) | (subst_vars; simp [upZ] at *; simp only [w32, w64] at *; omega))⟩))
    | ((fail_if_success (first | (with_reducible show _ ≤ _) | (with_reducible show _ = _) | (with_reducible show _ ∨ _) | (with_reducible show _ < _) | (with_reducible show G _ _ _ _))); exact Exists.intro _ (Exists.intro _ ⟨rfl, rfl, by assumption, by assumption⟩))
    | ((fail_if_success (first | (with_reducible show _ ≤ _) | (with_reducible show _ = _) | (with_reducible show _ ∨ _) | (with_reducible show _ < _) | (with_reducible show G _ _ _ _))); exact Exists.intro _ ⟨rfl, rfl, by assumption, by assumption⟩)
    | ((fail_if_success (first | (with_reducible show _ ≤ _) | (with_reducible show _ = _) | (with_reducible show _ ∨ _) | (with_reducible show _ < _) | (with_reducible show G _ _ _ _))); exact Or.inl (Exists.intro _ ⟨rfl, rfl, by assumption, by assumption⟩))
    | ((fail_if_success (first | (with_reducible show _ ≤ _) | (with_reducible show _ = _) | (with_reducible show _ ∨ _) | (with_reducible show _ < _) | (with_reducible show G _ _ _ _))); exact Or.inr (Exists.intro _ ⟨rfl, rfl, by assumption, by assumption⟩))
    | omega
    | rfl
    | exact trivial
    | decide
    | (show (0 : Int) < _; omega)
    | (show (0 : Int) < _; simp only [w64] at *; omega)
    | (simp only [w32, w64] at *; omega)
    | (first | omega | (simp (disch := omega) only [w32_id, w64_id]; omega) | (simp (disch := omega) only [w32_id, w64_id] at *; omega) | (simp only [w32, w64] at *; omega) | exact (and32_le (by omega) (by omega)).1 | exact (and32_le (by omega) (by omega)).2 | exact (mulR (by omega) (by omega) (by omega) (by omega)).1 | exact (mulR (by omega) (by omega) (by omega) (by omega)).2 | (subst_vars; simp [upZ] at *; omega) | (subst_vars; simp [upZ] at *; simp only [w32, w64] at *; omega))
    | skip
def s_X4_isMarked : Sp := wspI 5 4 (fun as Z => match as with
    | [.inr (.inr a0), .inr (.inr a1), .inl a2, .inl a3, .inl a4] => ((a0 = 78)) ∧ ((a1 = 2)) ∧ (True) ∧ (True) ∧ (True) ∧ True
    | _ => False) (fun as => match as with
    | [.inr (.inr a0), .inr (.inr a1), .inl a2, .inl a3, .inl a4] => []
    | _ => []) 0 1
set_option maxRecDepth 100000 in
set_option maxHeartbeats 40000000 in
theorem c_X4_isMarked {l : Launch} {D : va_G} {cA : Nat → ClassId} : PM l D cA yX4_isMarked cX4_isMarked 6 (some .boolean) 1 24 s_X4_isMarked := by
  refine of_X4_isMarked (c_X5_sideOf) ⟨rfl, rfl⟩ (c_X3_beside) ⟨rfl, rfl⟩ (c_X5_isNow) ⟨rfl, rfl⟩ (c_X5_letterOf) ⟨rfl, rfl⟩ (c_X4_has) ⟨rfl, rfl⟩ (fun as σ hwf hao hpre => ?_)
  obtain ⟨n, Z, R⟩ := σ
  obtain ⟨hR, hI, hpre⟩ := hpre
  obtain rfl : R = R0 := hR
  rcases as with _ | ⟨x | x | a0, _ | ⟨x | x | a1, _ | ⟨a2 | x | x, _ | ⟨a3 | x | x, _ | ⟨a4 | x | x, _ | ⟨v, t⟩⟩⟩⟩⟩⟩ <;> first | exact (hpre : False).elim | skip
  obtain ⟨k2l, k2u⟩ : okI a2 := hao (vi a2) (by simp)
  obtain ⟨k3l, k3u⟩ : okI a3 := hao (vi a3) (by simp)
  obtain ⟨k4l, k4u⟩ : okI a4 := hao (vi a4) (by simp)
  obtain ⟨h0, h1, h2, h3, h4, -⟩ := hpre
  have hk : keeps ([]) Z Z := keeps_refl
  refine ⟨Nat.le_of_ble_eq_true rfl, fun G hG => ?_⟩
  clear hao hwf
  obtain rfl := h0
  obtain rfl := h1
  refine wq_run hG n R0 [] 900 _ _ _ _ ?_
  repeat' (first
      | with_reducible rfl
      | refine And.intro ?_ ?_
      | with_reducible exact True.intro
      | ((with_reducible show _ = true); rfl)
      | ((with_reducible show recvG _ _); rfl)
      | ((with_reducible show CI _); first | with_reducible assumption | assumption)
      | (fail_if_success (first | (with_reducible show _ ≤ _) | (with_reducible show _ = _) | (with_reducible show _ ∨ _) | (with_reducible show _ < _) | (with_reducible show G _ _ _ _))
         first
         | show G _ _ _ _
         | (intro (Z2 : ZT) hZ2; have hZ3 : Z' = Z2 := hZ2.symm; subst hZ3)
         | (intro (Z2 : ZT) hZ2; have hZ3 : Z1 = Z2 := hZ2.symm; subst hZ3)
         | (intro (Z2 : ZT) hZ2; have hZ3 : Z = Z2 := hZ2.symm; subst hZ3)
         | (refine ld_bnd (by first | with_reducible assumption | assumption) rfl ?_; intro _ _ _ _)
         | (refine st_bnd (by first | with_reducible assumption | assumption) (by first | with_reducible assumption | assumption) (by decide) (fun lo hi hb => by first | (cases hb; done) | (cases hb; constructor <;> (first | omega | (simp (disch := omega) only [w32_id, w64_id]; omega) | (simp (disch := omega) only [w32_id, w64_id] at *; omega) | (simp only [w32, w64] at *; omega) | exact (and32_le (by omega) (by omega)).1 | exact (and32_le (by omega) (by omega)).2 | exact (mulR (by omega) (by omega) (by omega) (by omega)).1 | exact (mulR (by omega) (by omega) (by omega) (by omega)).2 | (subst_vars; simp [upZ] at *; omega) | (subst_vars; simp [upZ] at *; simp only [w32, w64] at *; omega)))) ?_; intro Z' _ _ _)
         | (intro (r : Option PV) σ' hq
            first
            | (obtain ⟨rfl, rfl⟩ := hq)
            | (obtain ⟨Z', x, rfl, rfl, hI2, hk2, hl2, hu2⟩ := hq; have hk3 := keeps_to (by first | with_reducible assumption | assumption) (by rfl) hk2; clear hk2)
            | (obtain ⟨Z', x, rfl, rfl, hI2, hk2⟩ := hq; have hk3 := keeps_to (by first | with_reducible assumption | assumption) (by rfl) hk2; clear hk2)
            | (rcases hq with ⟨Z', rfl, rfl, hI2, hk2⟩ | ⟨Z', rfl, rfl, hI2, hk2⟩ <;> (have hk3 := keeps_to (by first | with_reducible assumption | assumption) (by rfl) hk2; clear hk2))
            | (obtain ⟨Z', rfl, rfl, hI2, hk2⟩ := hq; have hk3 := keeps_to (by first | with_reducible assumption | assumption) (by rfl) hk2; clear hk2))
         | (intro hc; (try simp only [cmp3_c] at hc); simp only [cmpI] at hc)
         | (show CI _; assumption)
         | intro (_ : Int)
         | intro (Z' : ZT)
         | intro (_ : CI _)
         | intro (_ : keeps _ _ _)
         | intro (_ : _ ≤ _)
         | intro (_ : _ = _)
         | intro (_ : _ < _)
         | intro (_ : _ ∨ _)))
  all_goals first
    | with_reducible rfl
    | ((with_reducible show _ = _); rfl)
    | ((with_reducible show recvG _ _); rfl)
    | with_reducible exact trivial
    | ((fail_if_success (first | (with_reducible show _ ≤ _) | (with_reducible show _ = _) | (with_reducible show _ ∨ _) | (with_reducible show _ < _) | (with_reducible show G _ _ _ _))); (refine Exists.intro _ (And.intro rfl (And.intro rfl (And.intro ?_ ?_)))) <;> with_reducible assumption)
    | ((fail_if_success (first | (with_reducible show _ ≤ _) | (with_reducible show _ = _) | (with_reducible show _ ∨ _) | (with_reducible show _ < _) | (with_reducible show G _ _ _ _))); exact Exists.intro _ (Exists.intro _ ⟨rfl, rfl, by assumption, by assumption, by (first | omega | (simp (disch := omega) only [w32_id, w64_id]; omega) | (simp (disch := omega) only [w32_id, w64_id] at *; omega) | (simp only [w32, w64] at *; omega) | exact (and32_le (by omega) (by omega)).1 | exact (and32_le (by omega) (by omega)).2 | exact (mulR (by omega) (by omega) (by omega) (by omega)).1 | exact (mulR (by omega) (by omega) (by omega) (by omega)).2 | (subst_vars; simp [upZ] at *; omega) | (subst_vars; simp [upZ] at *; simp only [w32, w64] at *; omega)), by (first | omega | (simp (disch := omega) only [w32_id, w64_id]; omega) | (simp (disch := omega) only [w32_id, w64_id] at *; omega) | (simp only [w32, w64] at *; omega) | exact (and32_le (by omega) (by omega)).1 | exact (and32_le (by omega) (by omega)).2 | exact (mulR (by omega) (by omega) (by omega) (by omega)).1 | exact (mulR (by omega) (by omega) (by omega) (by omega)).2 | (subst_vars; simp [upZ] at *; omega) | (subst_vars; simp [upZ] at *; simp only [w32, w64] at *; omega))⟩))
    | ((fail_if_success (first | (with_reducible show _ ≤ _) | (with_reducible show _ = _) | (with_reducible show _ ∨ _) | (with_reducible show _ < _) | (with_reducible show G _ _ _ _))); exact Exists.intro _ (Exists.intro _ ⟨rfl, rfl, by assumption, by assumption⟩))
    | ((fail_if_success (first | (with_reducible show _ ≤ _) | (with_reducible show _ = _) | (with_reducible show _ ∨ _) | (with_reducible show _ < _) | (with_reducible show G _ _ _ _))); exact Exists.intro _ ⟨rfl, rfl, by assumption, by assumption⟩)
    | ((fail_if_success (first | (with_reducible show _ ≤ _) | (with_reducible show _ = _) | (with_reducible show _ ∨ _) | (with_reducible show _ < _) | (with_reducible show G _ _ _ _))); exact Or.inl (Exists.intro _ ⟨rfl, rfl, by assumption, by assumption⟩))
    | ((fail_if_success (first | (with_reducible show _ ≤ _) | (with_reducible show _ = _) | (with_reducible show _ ∨ _) | (with_reducible show _ < _) | (with_reducible show G _ _ _ _))); exact Or.inr (Exists.intro _ ⟨rfl, rfl, by assumption, by assumption⟩))
    | omega
    | rfl
    | exact trivial
    | decide
    | (show (0 : Int) < _; omega)
    | (show (0 : Int) < _; simp only [w64] at *; omega)
    | (simp only [w32, w64] at *; omega)
    | (first | omega | (simp (disch := omega) only [w32_id, w64_id]; omega) | (simp (disch := omega) only [w32_id, w64_id] at *; omega) | (simp only [w32, w64] at *; omega) | exact (and32_le (by omega) (by omega)).1 | exact (and32_le (by omega) (by omega)).2 | exact (mulR (by omega) (by omega) (by omega) (by omega)).1 | exact (mulR (by omega) (by omega) (by omega) (by omega)).2 | (subst_vars; simp [upZ] at *; omega) | (subst_vars; simp [upZ] at *; simp only [w32, w64] at *; omega))
    | skip
def s_X4_leans : Sp := wspI 6 4 (fun as Z => match as with
    | [.inr (.inr a0), .inr (.inr a1), .inr (.inr a2), .inl a3, .inl a4, .inl a5] => ((a0 = 78)) ∧ ((a1 = 2)) ∧ ((a2 = 19)) ∧ ((0 ≤ a3 ∧ a3 ≤ 3)) ∧ (True) ∧ (True) ∧ True
    | _ => False) (fun as => match as with
    | [.inr (.inr a0), .inr (.inr a1), .inr (.inr a2), .inl a3, .inl a4, .inl a5] => []
    | _ => []) 0 1
set_option maxRecDepth 100000 in
set_option maxHeartbeats 40000000 in
theorem c_X4_leans {l : Launch} {D : va_G} {cA : Nat → ClassId} : PM l D cA yX4_leans cX4_leans 7 (some .boolean) 2 49 s_X4_leans := by
  refine of_X4_leans (c_X4_has) ⟨rfl, rfl⟩ (c_X5_end) ⟨rfl, rfl⟩ (c_X4_isMarked) ⟨rfl, rfl⟩ (fun as σ hwf hao hpre => ?_)
  obtain ⟨n, Z, R⟩ := σ
  obtain ⟨hR, hI, hpre⟩ := hpre
  obtain rfl : R = R0 := hR
  rcases as with _ | ⟨x | x | a0, _ | ⟨x | x | a1, _ | ⟨x | x | a2, _ | ⟨a3 | x | x, _ | ⟨a4 | x | x, _ | ⟨a5 | x | x, _ | ⟨v, t⟩⟩⟩⟩⟩⟩⟩ <;> first | exact (hpre : False).elim | skip
  obtain ⟨k3l, k3u⟩ : okI a3 := hao (vi a3) (by simp)
  obtain ⟨k4l, k4u⟩ : okI a4 := hao (vi a4) (by simp)
  obtain ⟨k5l, k5u⟩ : okI a5 := hao (vi a5) (by simp)
  obtain ⟨h0, h1, h2, h3, h4, h5, -⟩ := hpre
  have hk : keeps ([]) Z Z := keeps_refl
  refine ⟨Nat.le_of_ble_eq_true rfl, fun G hG => ?_⟩
  clear hao hwf
  obtain rfl := h0
  obtain rfl := h1
  obtain rfl := h2
  have loop : ∀ fuel : Nat, (∀ (Z1 : ZT) (v6 : Int), CI Z1 → keeps ([]) Z Z1 → ((0 ≤ v6 ∧ v6 ≤ 80) ∧ True) → 81 - v6 ≤ (fuel : Int) → G 29 [(0, vr 78), (1, vr 2), (2, vr 19), (3, vi a3), (4, vi a4), (5, vi a5), (6, vi v6)] [] (n, Z1, R0)) := by
    intro fuel
    induction fuel with
    | zero => exact (by intros; omega)
    | succ fuel ih =>
      have ih29 := ih
      · intro Z1 v6 hI1 hk1 hv hm
        obtain ⟨w0, -⟩ := hv
        clear hk hI
        refine wq_run hG n R0 [29] 900 _ _ _ _ ?_
        repeat' (first
            | with_reducible rfl
            | refine And.intro ?_ ?_
            | with_reducible exact True.intro
            | ((with_reducible show _ = true); rfl)
            | ((with_reducible show recvG _ _); rfl)
            | ((with_reducible show CI _); first | with_reducible assumption | assumption)
            | (fail_if_success (first | (with_reducible show _ ≤ _) | (with_reducible show _ = _) | (with_reducible show _ ∨ _) | (with_reducible show _ < _) | (with_reducible show G _ _ _ _))
               first
               | show G _ _ _ _
               | (intro (Z2 : ZT) hZ2; have hZ3 : Z' = Z2 := hZ2.symm; subst hZ3)
               | (intro (Z2 : ZT) hZ2; have hZ3 : Z1 = Z2 := hZ2.symm; subst hZ3)
               | (intro (Z2 : ZT) hZ2; have hZ3 : Z = Z2 := hZ2.symm; subst hZ3)
               | (refine ld_bnd (by first | with_reducible assumption | assumption) rfl ?_; intro _ _ _ _)
               | (refine st_bnd (by first | with_reducible assumption | assumption) (by first | with_reducible assumption | assumption) (by decide) (fun lo hi hb => by first | (cases hb; done) | (cases hb; constructor <;> (first | omega | (simp (disch := omega) only [w32_id, w64_id]; omega) | (simp (disch := omega) only [w32_id, w64_id] at *; omega) | (simp only [w32, w64] at *; omega) | exact (and32_le (by omega) (by omega)).1 | exact (and32_le (by omega) (by omega)).2 | exact (mulR (by omega) (by omega) (by omega) (by omega)).1 | exact (mulR (by omega) (by omega) (by omega) (by omega)).2 | (subst_vars; simp [upZ] at *; omega) | (subst_vars; simp [upZ] at *; simp only [w32, w64] at *; omega)))) ?_; intro Z' _ _ _)
               | (intro (r : Option PV) σ' hq
                  first
                  | (obtain ⟨rfl, rfl⟩ := hq)
                  | (obtain ⟨Z', x, rfl, rfl, hI2, hk2, hl2, hu2⟩ := hq; have hk3 := keeps_to (by first | with_reducible assumption | assumption) (by rfl) hk2; clear hk2)
                  | (obtain ⟨Z', x, rfl, rfl, hI2, hk2⟩ := hq; have hk3 := keeps_to (by first | with_reducible assumption | assumption) (by rfl) hk2; clear hk2)
                  | (rcases hq with ⟨Z', rfl, rfl, hI2, hk2⟩ | ⟨Z', rfl, rfl, hI2, hk2⟩ <;> (have hk3 := keeps_to (by first | with_reducible assumption | assumption) (by rfl) hk2; clear hk2))
                  | (obtain ⟨Z', rfl, rfl, hI2, hk2⟩ := hq; have hk3 := keeps_to (by first | with_reducible assumption | assumption) (by rfl) hk2; clear hk2))
               | (intro hc; (try simp only [cmp3_c] at hc); simp only [cmpI] at hc)
               | (show CI _; assumption)
               | intro (_ : Int)
               | intro (Z' : ZT)
               | intro (_ : CI _)
               | intro (_ : keeps _ _ _)
               | intro (_ : _ ≤ _)
               | intro (_ : _ = _)
               | intro (_ : _ < _)
               | intro (_ : _ ∨ _)))
        all_goals first
          | with_reducible rfl
          | ((with_reducible show _ = _); rfl)
          | ((with_reducible show recvG _ _); rfl)
          | with_reducible exact trivial
          | ((fail_if_success (first | (with_reducible show _ ≤ _) | (with_reducible show _ = _) | (with_reducible show _ ∨ _) | (with_reducible show _ < _) | (with_reducible show G _ _ _ _))); (refine Exists.intro _ (And.intro rfl (And.intro rfl (And.intro ?_ ?_)))) <;> with_reducible assumption)
          | ((with_reducible show G 29 _ _ _); exact hG.2 29 _ [(0, vr 78), (1, vr 2), (2, vr 19), (3, vi a3), (4, vi a4), (5, vi a5), (6, vi _)] _ _ rfl (ih29 _ _ (by assumption) (by assumption) (by refine ⟨by first | omega | (refine ⟨?_, ?_⟩ <;> (first | omega | (simp (disch := omega) only [w32_id, w64_id]; omega) | (simp (disch := omega) only [w32_id, w64_id] at *; omega) | (simp only [w32, w64] at *; omega) | exact (and32_le (by omega) (by omega)).1 | exact (and32_le (by omega) (by omega)).2 | exact (mulR (by omega) (by omega) (by omega) (by omega)).1 | exact (mulR (by omega) (by omega) (by omega) (by omega)).2 | (subst_vars; simp [upZ] at *; omega) | (subst_vars; simp [upZ] at *; simp only [w32, w64] at *; omega))) | (first | omega | (simp (disch := omega) only [w32_id, w64_id]; omega) | (simp (disch := omega) only [w32_id, w64_id] at *; omega) | (simp only [w32, w64] at *; omega) | exact (and32_le (by omega) (by omega)).1 | exact (and32_le (by omega) (by omega)).2 | exact (mulR (by omega) (by omega) (by omega) (by omega)).1 | exact (mulR (by omega) (by omega) (by omega) (by omega)).2 | (subst_vars; simp [upZ] at *; omega) | (subst_vars; simp [upZ] at *; simp only [w32, w64] at *; omega)), trivial⟩) (by first | omega | (simp (disch := omega) only [w32_id, w64_id]; omega) | (simp (disch := omega) only [w32_id, w64_id] at *; omega) | (simp only [w32, w64] at *; omega) | exact (and32_le (by omega) (by omega)).1 | exact (and32_le (by omega) (by omega)).2 | exact (mulR (by omega) (by omega) (by omega) (by omega)).1 | exact (mulR (by omega) (by omega) (by omega) (by omega)).2 | (subst_vars; simp [upZ] at *; omega) | (subst_vars; simp [upZ] at *; simp only [w32, w64] at *; omega))))
          | ((fail_if_success (first | (with_reducible show _ ≤ _) | (with_reducible show _ = _) | (with_reducible show _ ∨ _) | (with_reducible show _ < _) | (with_reducible show G _ _ _ _))); exact Exists.intro _ (Exists.intro _ ⟨rfl, rfl, by assumption, by assumption, by (first | omega | (simp (disch := omega) only [w32_id, w64_id]; omega) | (simp (disch := omega) only [w32_id, w64_id] at *; omega) | (simp only [w32, w64] at *; omega) | exact (and32_le (by omega) (by omega)).1 | exact (and32_le (by omega) (by omega)).2 | exact (mulR (by omega) (by omega) (by omega) (by omega)).1 | exact (mulR (by omega) (by omega) (by omega) (by omega)).2 | (subst_vars; simp [upZ] at *; omega) | (subst_vars; simp [upZ] at *; simp only [w32, w64] at *; omega)), by (first | omega | (simp (disch := omega) only [w32_id, w64_id]; omega) | (simp (disch := omega) only [w32_id, w64_id] at *; omega) | (simp only [w32, w64] at *; omega) | exact (and32_le (by omega) (by omega)).1 | exact (and32_le (by omega) (by omega)).2 | exact (mulR (by omega) (by omega) (by omega) (by omega)).1 | exact (mulR (by omega) (by omega) (by omega) (by omega)).2 | (subst_vars; simp [upZ] at *; omega) | (subst_vars; simp [upZ] at *; simp only [w32, w64] at *; omega))⟩))
          | ((fail_if_success (first | (with_reducible show _ ≤ _) | (with_reducible show _ = _) | (with_reducible show _ ∨ _) | (with_reducible show _ < _) | (with_reducible show G _ _ _ _))); exact Exists.intro _ (Exists.intro _ ⟨rfl, rfl, by assumption, by assumption⟩))
          | ((fail_if_success (first | (with_reducible show _ ≤ _) | (with_reducible show _ = _) | (with_reducible show _ ∨ _) | (with_reducible show _ < _) | (with_reducible show G _ _ _ _))); exact Exists.intro _ ⟨rfl, rfl, by assumption, by assumption⟩)
          | ((fail_if_success (first | (with_reducible show _ ≤ _) | (with_reducible show _ = _) | (with_reducible show _ ∨ _) | (with_reducible show _ < _) | (with_reducible show G _ _ _ _))); exact Or.inl (Exists.intro _ ⟨rfl, rfl, by assumption, by assumption⟩))
          | ((fail_if_success (first | (with_reducible show _ ≤ _) | (with_reducible show _ = _) | (with_reducible show _ ∨ _) | (with_reducible show _ < _) | (with_reducible show G _ _ _ _))); exact Or.inr (Exists.intro _ ⟨rfl, rfl, by assumption, by assumption⟩))
          | omega
          | rfl
          | exact trivial
          | decide
          | (show (0 : Int) < _; omega)
          | (show (0 : Int) < _; simp only [w64] at *; omega)
          | (simp only [w32, w64] at *; omega)
          | (first | omega | (simp (disch := omega) only [w32_id, w64_id]; omega) | (simp (disch := omega) only [w32_id, w64_id] at *; omega) | (simp only [w32, w64] at *; omega) | exact (and32_le (by omega) (by omega)).1 | exact (and32_le (by omega) (by omega)).2 | exact (mulR (by omega) (by omega) (by omega) (by omega)).1 | exact (mulR (by omega) (by omega) (by omega) (by omega)).2 | (subst_vars; simp [upZ] at *; omega) | (subst_vars; simp [upZ] at *; simp only [w32, w64] at *; omega))
          | skip
  refine wq_run hG n R0 [29] 900 _ _ _ _ ?_
  repeat' (first
      | with_reducible rfl
      | refine And.intro ?_ ?_
      | with_reducible exact True.intro
      | ((with_reducible show _ = true); rfl)
      | ((with_reducible show recvG _ _); rfl)
      | ((with_reducible show CI _); first | with_reducible assumption | assumption)
      | (fail_if_success (first | (with_reducible show _ ≤ _) | (with_reducible show _ = _) | (with_reducible show _ ∨ _) | (with_reducible show _ < _) | (with_reducible show G _ _ _ _))
         first
         | show G _ _ _ _
         | (intro (Z2 : ZT) hZ2; have hZ3 : Z' = Z2 := hZ2.symm; subst hZ3)
         | (intro (Z2 : ZT) hZ2; have hZ3 : Z1 = Z2 := hZ2.symm; subst hZ3)
         | (intro (Z2 : ZT) hZ2; have hZ3 : Z = Z2 := hZ2.symm; subst hZ3)
         | (refine ld_bnd (by first | with_reducible assumption | assumption) rfl ?_; intro _ _ _ _)
         | (refine st_bnd (by first | with_reducible assumption | assumption) (by first | with_reducible assumption | assumption) (by decide) (fun lo hi hb => by first | (cases hb; done) | (cases hb; constructor <;> (first | omega | (simp (disch := omega) only [w32_id, w64_id]; omega) | (simp (disch := omega) only [w32_id, w64_id] at *; omega) | (simp only [w32, w64] at *; omega) | exact (and32_le (by omega) (by omega)).1 | exact (and32_le (by omega) (by omega)).2 | exact (mulR (by omega) (by omega) (by omega) (by omega)).1 | exact (mulR (by omega) (by omega) (by omega) (by omega)).2 | (subst_vars; simp [upZ] at *; omega) | (subst_vars; simp [upZ] at *; simp only [w32, w64] at *; omega)))) ?_; intro Z' _ _ _)
         | (intro (r : Option PV) σ' hq
            first
            | (obtain ⟨rfl, rfl⟩ := hq)
            | (obtain ⟨Z', x, rfl, rfl, hI2, hk2, hl2, hu2⟩ := hq; have hk3 := keeps_to (by first | with_reducible assumption | assumption) (by rfl) hk2; clear hk2)
            | (obtain ⟨Z', x, rfl, rfl, hI2, hk2⟩ := hq; have hk3 := keeps_to (by first | with_reducible assumption | assumption) (by rfl) hk2; clear hk2)
            | (rcases hq with ⟨Z', rfl, rfl, hI2, hk2⟩ | ⟨Z', rfl, rfl, hI2, hk2⟩ <;> (have hk3 := keeps_to (by first | with_reducible assumption | assumption) (by rfl) hk2; clear hk2))
            | (obtain ⟨Z', rfl, rfl, hI2, hk2⟩ := hq; have hk3 := keeps_to (by first | with_reducible assumption | assumption) (by rfl) hk2; clear hk2))
         | (intro hc; (try simp only [cmp3_c] at hc); simp only [cmpI] at hc)
         | (show CI _; assumption)
         | intro (_ : Int)
         | intro (Z' : ZT)
         | intro (_ : CI _)
         | intro (_ : keeps _ _ _)
         | intro (_ : _ ≤ _)
         | intro (_ : _ = _)
         | intro (_ : _ < _)
         | intro (_ : _ ∨ _)))
  all_goals (have lp29 := loop 1000000)
  all_goals first
    | with_reducible rfl
    | ((with_reducible show _ = _); rfl)
    | ((with_reducible show recvG _ _); rfl)
    | with_reducible exact trivial
    | ((fail_if_success (first | (with_reducible show _ ≤ _) | (with_reducible show _ = _) | (with_reducible show _ ∨ _) | (with_reducible show _ < _) | (with_reducible show G _ _ _ _))); (refine Exists.intro _ (And.intro rfl (And.intro rfl (And.intro ?_ ?_)))) <;> with_reducible assumption)
    | ((with_reducible show G 29 _ _ _); exact hG.2 29 _ [(0, vr 78), (1, vr 2), (2, vr 19), (3, vi a3), (4, vi a4), (5, vi a5), (6, vi _)] _ _ rfl (lp29 _ _ (by assumption) (by assumption) (by refine ⟨by first | omega | (refine ⟨?_, ?_⟩ <;> (first | omega | (simp (disch := omega) only [w32_id, w64_id]; omega) | (simp (disch := omega) only [w32_id, w64_id] at *; omega) | (simp only [w32, w64] at *; omega) | exact (and32_le (by omega) (by omega)).1 | exact (and32_le (by omega) (by omega)).2 | exact (mulR (by omega) (by omega) (by omega) (by omega)).1 | exact (mulR (by omega) (by omega) (by omega) (by omega)).2 | (subst_vars; simp [upZ] at *; omega) | (subst_vars; simp [upZ] at *; simp only [w32, w64] at *; omega))) | (first | omega | (simp (disch := omega) only [w32_id, w64_id]; omega) | (simp (disch := omega) only [w32_id, w64_id] at *; omega) | (simp only [w32, w64] at *; omega) | exact (and32_le (by omega) (by omega)).1 | exact (and32_le (by omega) (by omega)).2 | exact (mulR (by omega) (by omega) (by omega) (by omega)).1 | exact (mulR (by omega) (by omega) (by omega) (by omega)).2 | (subst_vars; simp [upZ] at *; omega) | (subst_vars; simp [upZ] at *; simp only [w32, w64] at *; omega)), trivial⟩) (by first | omega | (simp (disch := omega) only [w32_id, w64_id]; omega) | (simp (disch := omega) only [w32_id, w64_id] at *; omega) | (simp only [w32, w64] at *; omega) | exact (and32_le (by omega) (by omega)).1 | exact (and32_le (by omega) (by omega)).2 | exact (mulR (by omega) (by omega) (by omega) (by omega)).1 | exact (mulR (by omega) (by omega) (by omega) (by omega)).2 | (subst_vars; simp [upZ] at *; omega) | (subst_vars; simp [upZ] at *; simp only [w32, w64] at *; omega))))
    | ((fail_if_success (first | (with_reducible show _ ≤ _) | (with_reducible show _ = _) | (with_reducible show _ ∨ _) | (with_reducible show _ < _) | (with_reducible show G _ _ _ _))); exact Exists.intro _ (Exists.intro _ ⟨rfl, rfl, by assumption, by assumption, by (first | omega | (simp (disch := omega) only [w32_id, w64_id]; omega) | (simp (disch := omega) only [w32_id, w64_id] at *; omega) | (simp only [w32, w64] at *; omega) | exact (and32_le (by omega) (by omega)).1 | exact (and32_le (by omega) (by omega)).2 | exact (mulR (by omega) (by omega) (by omega) (by omega)).1 | exact (mulR (by omega) (by omega) (by omega) (by omega)).2 | (subst_vars; simp [upZ] at *; omega) | (subst_vars; simp [upZ] at *; simp only [w32, w64] at *; omega)), by (first | omega | (simp (disch := omega) only [w32_id, w64_id]; omega) | (simp (disch := omega) only [w32_id, w64_id] at *; omega) | (simp only [w32, w64] at *; omega) | exact (and32_le (by omega) (by omega)).1 | exact (and32_le (by omega) (by omega)).2 | exact (mulR (by omega) (by omega) (by omega) (by omega)).1 | exact (mulR (by omega) (by omega) (by omega) (by omega)).2 | (subst_vars; simp [upZ] at *; omega) | (subst_vars; simp [upZ] at *; simp only [w32, w64] at *; omega))⟩))
    | ((fail_if_success (first | (with_reducible show _ ≤ _) | (with_reducible show _ = _) | (with_reducible show _ ∨ _) | (with_reducible show _ < _) | (with_reducible show G _ _ _ _))); exact Exists.intro _ (Exists.intro _ ⟨rfl, rfl, by assumption, by assumption⟩))
    | ((fail_if_success (first | (with_reducible show _ ≤ _) | (with_reducible show _ = _) | (with_reducible show _ ∨ _) | (with_reducible show _ < _) | (with_reducible show G _ _ _ _))); exact Exists.intro _ ⟨rfl, rfl, by assumption, by assumption⟩)
    | ((fail_if_success (first | (with_reducible show _ ≤ _) | (with_reducible show _ = _) | (with_reducible show _ ∨ _) | (with_reducible show _ < _) | (with_reducible show G _ _ _ _))); exact Or.inl (Exists.intro _ ⟨rfl, rfl, by assumption, by assumption⟩))
    | ((fail_if_success (first | (with_reducible show _ ≤ _) | (with_reducible show _ = _) | (with_reducible show _ ∨ _) | (with_reducible show _ < _) | (with_reducible show G _ _ _ _))); exact Or.inr (Exists.intro _ ⟨rfl, rfl, by assumption, by assumption⟩))
    | omega
    | rfl
    | exact trivial
    | decide
    | (show (0 : Int) < _; omega)
    | (show (0 : Int) < _; simp only [w64] at *; omega)
    | (simp only [w32, w64] at *; omega)
    | (first | omega | (simp (disch := omega) only [w32_id, w64_id]; omega) | (simp (disch := omega) only [w32_id, w64_id] at *; omega) | (simp only [w32, w64] at *; omega) | exact (and32_le (by omega) (by omega)).1 | exact (and32_le (by omega) (by omega)).2 | exact (mulR (by omega) (by omega) (by omega) (by omega)).1 | exact (mulR (by omega) (by omega) (by omega) (by omega)).2 | (subst_vars; simp [upZ] at *; omega) | (subst_vars; simp [upZ] at *; simp only [w32, w64] at *; omega))
    | skip
def s_X4_markCell : Sp := wspV 5 4 (fun as Z => match as with
    | [.inr (.inr a0), .inr (.inr a1), .inr (.inr a2), .inl a3, .inl a4] => ((a0 = 78)) ∧ ((a1 = 2)) ∧ ((a2 = 18)) ∧ (True) ∧ (True) ∧ True
    | _ => False) (fun as => match as with
    | [.inr (.inr a0), .inr (.inr a1), .inr (.inr a2), .inl a3, .inl a4] => [79]
    | _ => [])
set_option maxRecDepth 100000 in
set_option maxHeartbeats 40000000 in
theorem c_X4_markCell {l : Launch} {D : va_G} {cA : Nat → ClassId} : PM l D cA yX4_markCell cX4_markCell 7 none 3 75 s_X4_markCell := by
  refine of_X4_markCell (c_X4_leans) ⟨rfl, rfl⟩ (c_X4_mark) ⟨rfl, rfl⟩ (fun as σ hwf hao hpre => ?_)
  obtain ⟨n, Z, R⟩ := σ
  obtain ⟨hR, hI, hpre⟩ := hpre
  obtain rfl : R = R0 := hR
  rcases as with _ | ⟨x | x | a0, _ | ⟨x | x | a1, _ | ⟨x | x | a2, _ | ⟨a3 | x | x, _ | ⟨a4 | x | x, _ | ⟨v, t⟩⟩⟩⟩⟩⟩ <;> first | exact (hpre : False).elim | skip
  obtain ⟨k3l, k3u⟩ : okI a3 := hao (vi a3) (by simp)
  obtain ⟨k4l, k4u⟩ : okI a4 := hao (vi a4) (by simp)
  obtain ⟨h0, h1, h2, h3, h4, -⟩ := hpre
  have hk : keeps ([79]) Z Z := keeps_refl
  refine ⟨Nat.le_of_ble_eq_true rfl, fun G hG => ?_⟩
  clear hao hwf
  obtain rfl := h0
  obtain rfl := h1
  obtain rfl := h2
  have loop : ∀ fuel : Nat, (∀ (Z1 : ZT) (v5 : Int), CI Z1 → keeps ([79]) Z Z1 → ((0 ≤ v5 ∧ v5 ≤ 4) ∧ True) → 5 - v5 ≤ (fuel : Int) → G 3 [(0, vr 78), (1, vr 2), (2, vr 18), (3, vi a3), (4, vi a4), (5, vi v5)] [] (n, Z1, R0)) := by
    intro fuel
    induction fuel with
    | zero => exact (by intros; omega)
    | succ fuel ih =>
      have ih3 := ih
      · intro Z1 v5 hI1 hk1 hv hm
        obtain ⟨w0, -⟩ := hv
        clear hk hI
        refine wq_run hG n R0 [3] 900 _ _ _ _ ?_
        repeat' (first
            | with_reducible rfl
            | refine And.intro ?_ ?_
            | with_reducible exact True.intro
            | ((with_reducible show _ = true); rfl)
            | ((with_reducible show recvG _ _); rfl)
            | ((with_reducible show CI _); first | with_reducible assumption | assumption)
            | (fail_if_success (first | (with_reducible show _ ≤ _) | (with_reducible show _ = _) | (with_reducible show _ ∨ _) | (with_reducible show _ < _) | (with_reducible show G _ _ _ _))
               first
               | show G _ _ _ _
               | (intro (Z2 : ZT) hZ2; have hZ3 : Z' = Z2 := hZ2.symm; subst hZ3)
               | (intro (Z2 : ZT) hZ2; have hZ3 : Z1 = Z2 := hZ2.symm; subst hZ3)
               | (intro (Z2 : ZT) hZ2; have hZ3 : Z = Z2 := hZ2.symm; subst hZ3)
               | (refine ld_bnd (by first | with_reducible assumption | assumption) rfl ?_; intro _ _ _ _)
               | (refine st_bnd (by first | with_reducible assumption | assumption) (by first | with_reducible assumption | assumption) (by decide) (fun lo hi hb => by first | (cases hb; done) | (cases hb; constructor <;> (first | omega | (simp (disch := omega) only [w32_id, w64_id]; omega) | (simp (disch := omega) only [w32_id, w64_id] at *; omega) | (simp only [w32, w64] at *; omega) | exact (and32_le (by omega) (by omega)).1 | exact (and32_le (by omega) (by omega)).2 | exact (mulR (by omega) (by omega) (by omega) (by omega)).1 | exact (mulR (by omega) (by omega) (by omega) (by omega)).2 | (subst_vars; simp [upZ] at *; omega) | (subst_vars; simp [upZ] at *; simp only [w32, w64] at *; omega)))) ?_; intro Z' _ _ _)
               | (intro (r : Option PV) σ' hq
                  first
                  | (obtain ⟨rfl, rfl⟩ := hq)
                  | (obtain ⟨Z', x, rfl, rfl, hI2, hk2, hl2, hu2⟩ := hq; have hk3 := keeps_to (by first | with_reducible assumption | assumption) (by rfl) hk2; clear hk2)
                  | (obtain ⟨Z', x, rfl, rfl, hI2, hk2⟩ := hq; have hk3 := keeps_to (by first | with_reducible assumption | assumption) (by rfl) hk2; clear hk2)
                  | (rcases hq with ⟨Z', rfl, rfl, hI2, hk2⟩ | ⟨Z', rfl, rfl, hI2, hk2⟩ <;> (have hk3 := keeps_to (by first | with_reducible assumption | assumption) (by rfl) hk2; clear hk2))
                  | (obtain ⟨Z', rfl, rfl, hI2, hk2⟩ := hq; have hk3 := keeps_to (by first | with_reducible assumption | assumption) (by rfl) hk2; clear hk2))
               | (intro hc; (try simp only [cmp3_c] at hc); simp only [cmpI] at hc)
               | (show CI _; assumption)
               | intro (_ : Int)
               | intro (Z' : ZT)
               | intro (_ : CI _)
               | intro (_ : keeps _ _ _)
               | intro (_ : _ ≤ _)
               | intro (_ : _ = _)
               | intro (_ : _ < _)
               | intro (_ : _ ∨ _)))
        all_goals first
          | with_reducible rfl
          | ((with_reducible show _ = _); rfl)
          | ((with_reducible show recvG _ _); rfl)
          | with_reducible exact trivial
          | ((fail_if_success (first | (with_reducible show _ ≤ _) | (with_reducible show _ = _) | (with_reducible show _ ∨ _) | (with_reducible show _ < _) | (with_reducible show G _ _ _ _))); (refine Exists.intro _ (And.intro rfl (And.intro rfl (And.intro ?_ ?_)))) <;> with_reducible assumption)
          | ((with_reducible show G 3 _ _ _); exact hG.2 3 _ [(0, vr 78), (1, vr 2), (2, vr 18), (3, vi a3), (4, vi a4), (5, vi _)] _ _ rfl (ih3 _ _ (by assumption) (by assumption) (by refine ⟨by first | omega | (refine ⟨?_, ?_⟩ <;> (first | omega | (simp (disch := omega) only [w32_id, w64_id]; omega) | (simp (disch := omega) only [w32_id, w64_id] at *; omega) | (simp only [w32, w64] at *; omega) | exact (and32_le (by omega) (by omega)).1 | exact (and32_le (by omega) (by omega)).2 | exact (mulR (by omega) (by omega) (by omega) (by omega)).1 | exact (mulR (by omega) (by omega) (by omega) (by omega)).2 | (subst_vars; simp [upZ] at *; omega) | (subst_vars; simp [upZ] at *; simp only [w32, w64] at *; omega))) | (first | omega | (simp (disch := omega) only [w32_id, w64_id]; omega) | (simp (disch := omega) only [w32_id, w64_id] at *; omega) | (simp only [w32, w64] at *; omega) | exact (and32_le (by omega) (by omega)).1 | exact (and32_le (by omega) (by omega)).2 | exact (mulR (by omega) (by omega) (by omega) (by omega)).1 | exact (mulR (by omega) (by omega) (by omega) (by omega)).2 | (subst_vars; simp [upZ] at *; omega) | (subst_vars; simp [upZ] at *; simp only [w32, w64] at *; omega)), trivial⟩) (by first | omega | (simp (disch := omega) only [w32_id, w64_id]; omega) | (simp (disch := omega) only [w32_id, w64_id] at *; omega) | (simp only [w32, w64] at *; omega) | exact (and32_le (by omega) (by omega)).1 | exact (and32_le (by omega) (by omega)).2 | exact (mulR (by omega) (by omega) (by omega) (by omega)).1 | exact (mulR (by omega) (by omega) (by omega) (by omega)).2 | (subst_vars; simp [upZ] at *; omega) | (subst_vars; simp [upZ] at *; simp only [w32, w64] at *; omega))))
          | ((fail_if_success (first | (with_reducible show _ ≤ _) | (with_reducible show _ = _) | (with_reducible show _ ∨ _) | (with_reducible show _ < _) | (with_reducible show G _ _ _ _))); exact Exists.intro _ (Exists.intro _ ⟨rfl, rfl, by assumption, by assumption, by (first | omega | (simp (disch := omega) only [w32_id, w64_id]; omega) | (simp (disch := omega) only [w32_id, w64_id] at *; omega) | (simp only [w32, w64] at *; omega) | exact (and32_le (by omega) (by omega)).1 | exact (and32_le (by omega) (by omega)).2 | exact (mulR (by omega) (by omega) (by omega) (by omega)).1 | exact (mulR (by omega) (by omega) (by omega) (by omega)).2 | (subst_vars; simp [upZ] at *; omega) | (subst_vars; simp [upZ] at *; simp only [w32, w64] at *; omega)), by (first | omega | (simp (disch := omega) only [w32_id, w64_id]; omega) | (simp (disch := omega) only [w32_id, w64_id] at *; omega) | (simp only [w32, w64] at *; omega) | exact (and32_le (by omega) (by omega)).1 | exact (and32_le (by omega) (by omega)).2 | exact (mulR (by omega) (by omega) (by omega) (by omega)).1 | exact (mulR (by omega) (by omega) (by omega) (by omega)).2 | (subst_vars; simp [upZ] at *; omega) | (subst_vars; simp [upZ] at *; simp only [w32, w64] at *; omega))⟩))
          | ((fail_if_success (first | (with_reducible show _ ≤ _) | (with_reducible show _ = _) | (with_reducible show _ ∨ _) | (with_reducible show _ < _) | (with_reducible show G _ _ _ _))); exact Exists.intro _ (Exists.intro _ ⟨rfl, rfl, by assumption, by assumption⟩))
          | ((fail_if_success (first | (with_reducible show _ ≤ _) | (with_reducible show _ = _) | (with_reducible show _ ∨ _) | (with_reducible show _ < _) | (with_reducible show G _ _ _ _))); exact Exists.intro _ ⟨rfl, rfl, by assumption, by assumption⟩)
          | ((fail_if_success (first | (with_reducible show _ ≤ _) | (with_reducible show _ = _) | (with_reducible show _ ∨ _) | (with_reducible show _ < _) | (with_reducible show G _ _ _ _))); exact Or.inl (Exists.intro _ ⟨rfl, rfl, by assumption, by assumption⟩))
          | ((fail_if_success (first | (with_reducible show _ ≤ _) | (with_reducible show _ = _) | (with_reducible show _ ∨ _) | (with_reducible show _ < _) | (with_reducible show G _ _ _ _))); exact Or.inr (Exists.intro _ ⟨rfl, rfl, by assumption, by assumption⟩))
          | omega
          | rfl
          | exact trivial
          | decide
          | (show (0 : Int) < _; omega)
          | (show (0 : Int) < _; simp only [w64] at *; omega)
          | (simp only [w32, w64] at *; omega)
          | (first | omega | (simp (disch := omega) only [w32_id, w64_id]; omega) | (simp (disch := omega) only [w32_id, w64_id] at *; omega) | (simp only [w32, w64] at *; omega) | exact (and32_le (by omega) (by omega)).1 | exact (and32_le (by omega) (by omega)).2 | exact (mulR (by omega) (by omega) (by omega) (by omega)).1 | exact (mulR (by omega) (by omega) (by omega) (by omega)).2 | (subst_vars; simp [upZ] at *; omega) | (subst_vars; simp [upZ] at *; simp only [w32, w64] at *; omega))
          | skip
  refine wq_run hG n R0 [3] 900 _ _ _ _ ?_
  repeat' (first
      | with_reducible rfl
      | refine And.intro ?_ ?_
      | with_reducible exact True.intro
      | ((with_reducible show _ = true); rfl)
      | ((with_reducible show recvG _ _); rfl)
      | ((with_reducible show CI _); first | with_reducible assumption | assumption)
      | (fail_if_success (first | (with_reducible show _ ≤ _) | (with_reducible show _ = _) | (with_reducible show _ ∨ _) | (with_reducible show _ < _) | (with_reducible show G _ _ _ _))
         first
         | show G _ _ _ _
         | (intro (Z2 : ZT) hZ2; have hZ3 : Z' = Z2 := hZ2.symm; subst hZ3)
         | (intro (Z2 : ZT) hZ2; have hZ3 : Z1 = Z2 := hZ2.symm; subst hZ3)
         | (intro (Z2 : ZT) hZ2; have hZ3 : Z = Z2 := hZ2.symm; subst hZ3)
         | (refine ld_bnd (by first | with_reducible assumption | assumption) rfl ?_; intro _ _ _ _)
         | (refine st_bnd (by first | with_reducible assumption | assumption) (by first | with_reducible assumption | assumption) (by decide) (fun lo hi hb => by first | (cases hb; done) | (cases hb; constructor <;> (first | omega | (simp (disch := omega) only [w32_id, w64_id]; omega) | (simp (disch := omega) only [w32_id, w64_id] at *; omega) | (simp only [w32, w64] at *; omega) | exact (and32_le (by omega) (by omega)).1 | exact (and32_le (by omega) (by omega)).2 | exact (mulR (by omega) (by omega) (by omega) (by omega)).1 | exact (mulR (by omega) (by omega) (by omega) (by omega)).2 | (subst_vars; simp [upZ] at *; omega) | (subst_vars; simp [upZ] at *; simp only [w32, w64] at *; omega)))) ?_; intro Z' _ _ _)
         | (intro (r : Option PV) σ' hq
            first
            | (obtain ⟨rfl, rfl⟩ := hq)
            | (obtain ⟨Z', x, rfl, rfl, hI2, hk2, hl2, hu2⟩ := hq; have hk3 := keeps_to (by first | with_reducible assumption | assumption) (by rfl) hk2; clear hk2)
            | (obtain ⟨Z', x, rfl, rfl, hI2, hk2⟩ := hq; have hk3 := keeps_to (by first | with_reducible assumption | assumption) (by rfl) hk2; clear hk2)
            | (rcases hq with ⟨Z', rfl, rfl, hI2, hk2⟩ | ⟨Z', rfl, rfl, hI2, hk2⟩ <;> (have hk3 := keeps_to (by first | with_reducible assumption | assumption) (by rfl) hk2; clear hk2))
            | (obtain ⟨Z', rfl, rfl, hI2, hk2⟩ := hq; have hk3 := keeps_to (by first | with_reducible assumption | assumption) (by rfl) hk2; clear hk2))
         | (intro hc; (try simp only [cmp3_c] at hc); simp only [cmpI] at hc)
         | (show CI _; assumption)
         | intro (_ : Int)
         | intro (Z' : ZT)
         | intro (_ : CI _)
         | intro (_ : keeps _ _ _)
         | intro (_ : _ ≤ _)
         | intro (_ : _ = _)
         | intro (_ : _ < _)
         | intro (_ : _ ∨ _)))
  all_goals (have lp3 := loop 1000000)
  all_goals first
    | with_reducible rfl
    | ((with_reducible show _ = _); rfl)
    | ((with_reducible show recvG _ _); rfl)
    | with_reducible exact trivial
    | ((fail_if_success (first | (with_reducible show _ ≤ _) | (with_reducible show _ = _) | (with_reducible show _ ∨ _) | (with_reducible show _ < _) | (with_reducible show G _ _ _ _))); (refine Exists.intro _ (And.intro rfl (And.intro rfl (And.intro ?_ ?_)))) <;> with_reducible assumption)
    | ((with_reducible show G 3 _ _ _); exact hG.2 3 _ [(0, vr 78), (1, vr 2), (2, vr 18), (3, vi a3), (4, vi a4), (5, vi _)] _ _ rfl (lp3 _ _ (by assumption) (by assumption) (by refine ⟨by first | omega | (refine ⟨?_, ?_⟩ <;> (first | omega | (simp (disch := omega) only [w32_id, w64_id]; omega) | (simp (disch := omega) only [w32_id, w64_id] at *; omega) | (simp only [w32, w64] at *; omega) | exact (and32_le (by omega) (by omega)).1 | exact (and32_le (by omega) (by omega)).2 | exact (mulR (by omega) (by omega) (by omega) (by omega)).1 | exact (mulR (by omega) (by omega) (by omega) (by omega)).2 | (subst_vars; simp [upZ] at *; omega) | (subst_vars; simp [upZ] at *; simp only [w32, w64] at *; omega))) | (first | omega | (simp (disch := omega) only [w32_id, w64_id]; omega) | (simp (disch := omega) only [w32_id, w64_id] at *; omega) | (simp only [w32, w64] at *; omega) | exact (and32_le (by omega) (by omega)).1 | exact (and32_le (by omega) (by omega)).2 | exact (mulR (by omega) (by omega) (by omega) (by omega)).1 | exact (mulR (by omega) (by omega) (by omega) (by omega)).2 | (subst_vars; simp [upZ] at *; omega) | (subst_vars; simp [upZ] at *; simp only [w32, w64] at *; omega)), trivial⟩) (by first | omega | (simp (disch := omega) only [w32_id, w64_id]; omega) | (simp (disch := omega) only [w32_id, w64_id] at *; omega) | (simp only [w32, w64] at *; omega) | exact (and32_le (by omega) (by omega)).1 | exact (and32_le (by omega) (by omega)).2 | exact (mulR (by omega) (by omega) (by omega) (by omega)).1 | exact (mulR (by omega) (by omega) (by omega) (by omega)).2 | (subst_vars; simp [upZ] at *; omega) | (subst_vars; simp [upZ] at *; simp only [w32, w64] at *; omega))))
    | ((fail_if_success (first | (with_reducible show _ ≤ _) | (with_reducible show _ = _) | (with_reducible show _ ∨ _) | (with_reducible show _ < _) | (with_reducible show G _ _ _ _))); exact Exists.intro _ (Exists.intro _ ⟨rfl, rfl, by assumption, by assumption, by (first | omega | (simp (disch := omega) only [w32_id, w64_id]; omega) | (simp (disch := omega) only [w32_id, w64_id] at *; omega) | (simp only [w32, w64] at *; omega) | exact (and32_le (by omega) (by omega)).1 | exact (and32_le (by omega) (by omega)).2 | exact (mulR (by omega) (by omega) (by omega) (by omega)).1 | exact (mulR (by omega) (by omega) (by omega) (by omega)).2 | (subst_vars; simp [upZ] at *; omega) | (subst_vars; simp [upZ] at *; simp only [w32, w64] at *; omega)), by (first | omega | (simp (disch := omega) only [w32_id, w64_id]; omega) | (simp (disch := omega) only [w32_id, w64_id] at *; omega) | (simp only [w32, w64] at *; omega) | exact (and32_le (by omega) (by omega)).1 | exact (and32_le (by omega) (by omega)).2 | exact (mulR (by omega) (by omega) (by omega) (by omega)).1 | exact (mulR (by omega) (by omega) (by omega) (by omega)).2 | (subst_vars; simp [upZ] at *; omega) | (subst_vars; simp [upZ] at *; simp only [w32, w64] at *; omega))⟩))
    | ((fail_if_success (first | (with_reducible show _ ≤ _) | (with_reducible show _ = _) | (with_reducible show _ ∨ _) | (with_reducible show _ < _) | (with_reducible show G _ _ _ _))); exact Exists.intro _ (Exists.intro _ ⟨rfl, rfl, by assumption, by assumption⟩))
    | ((fail_if_success (first | (with_reducible show _ ≤ _) | (with_reducible show _ = _) | (with_reducible show _ ∨ _) | (with_reducible show _ < _) | (with_reducible show G _ _ _ _))); exact Exists.intro _ ⟨rfl, rfl, by assumption, by assumption⟩)
    | ((fail_if_success (first | (with_reducible show _ ≤ _) | (with_reducible show _ = _) | (with_reducible show _ ∨ _) | (with_reducible show _ < _) | (with_reducible show G _ _ _ _))); exact Or.inl (Exists.intro _ ⟨rfl, rfl, by assumption, by assumption⟩))
    | ((fail_if_success (first | (with_reducible show _ ≤ _) | (with_reducible show _ = _) | (with_reducible show _ ∨ _) | (with_reducible show _ < _) | (with_reducible show G _ _ _ _))); exact Or.inr (Exists.intro _ ⟨rfl, rfl, by assumption, by assumption⟩))
    | omega
    | rfl
    | exact trivial
    | decide
    | (show (0 : Int) < _; omega)
    | (show (0 : Int) < _; simp only [w64] at *; omega)
    | (simp only [w32, w64] at *; omega)
    | (first | omega | (simp (disch := omega) only [w32_id, w64_id]; omega) | (simp (disch := omega) only [w32_id, w64_id] at *; omega) | (simp only [w32, w64] at *; omega) | exact (and32_le (by omega) (by omega)).1 | exact (and32_le (by omega) (by omega)).2 | exact (mulR (by omega) (by omega) (by omega) (by omega)).1 | exact (mulR (by omega) (by omega) (by omega) (by omega)).2 | (subst_vars; simp [upZ] at *; omega) | (subst_vars; simp [upZ] at *; simp only [w32, w64] at *; omega))
    | skip
def s_X4_reach : Sp := wspV 4 4 (fun as Z => match as with
    | [.inr (.inr a0), .inr (.inr a1), .inr (.inr a2), .inl a3] => ((a0 = 78)) ∧ ((a1 = 2)) ∧ ((a2 = 18)) ∧ (True) ∧ True
    | _ => False) (fun as => match as with
    | [.inr (.inr a0), .inr (.inr a1), .inr (.inr a2), .inl a3] => [78, 79]
    | _ => [])
set_option maxRecDepth 100000 in
set_option maxHeartbeats 40000000 in
theorem c_X4_reach {l : Launch} {D : va_G} {cA : Nat → ClassId} : PM l D cA yX4_reach cX4_reach 7 none 4 101 s_X4_reach := by
  refine of_X4_reach (c_X4_markGaps) ⟨rfl, rfl⟩ (c_X4_markCell) ⟨rfl, rfl⟩ (fun as σ hwf hao hpre => ?_)
  obtain ⟨n, Z, R⟩ := σ
  obtain ⟨hR, hI, hpre⟩ := hpre
  obtain rfl : R = R0 := hR
  rcases as with _ | ⟨x | x | a0, _ | ⟨x | x | a1, _ | ⟨x | x | a2, _ | ⟨a3 | x | x, _ | ⟨v, t⟩⟩⟩⟩⟩ <;> first | exact (hpre : False).elim | skip
  obtain ⟨k3l, k3u⟩ : okI a3 := hao (vi a3) (by simp)
  obtain ⟨h0, h1, h2, h3, -⟩ := hpre
  have hk : keeps ([78, 79]) Z Z := keeps_refl
  refine ⟨Nat.le_of_ble_eq_true rfl, fun G hG => ?_⟩
  clear hao hwf
  obtain rfl := h0
  obtain rfl := h1
  obtain rfl := h2
  have loop : ∀ fuel : Nat, (∀ (Z1 : ZT) (v4 : Int), CI Z1 → keeps ([78, 79]) Z Z1 → ((0 ≤ v4 ∧ v4 ≤ 13) ∧ True) → (13 - v4) * 1000 + 999 ≤ (fuel : Int) → G 8 [(0, vr 78), (1, vr 2), (2, vr 18), (3, vi a3), (4, vi v4)] [] (n, Z1, R0)) ∧ (∀ (Z1 : ZT) (v4 : Int) (v5 : Int), CI Z1 → keeps ([78, 79]) Z Z1 → ((0 ≤ v4 ∧ v4 ≤ 12) ∧ (0 ≤ v5 ∧ v5 ≤ 36) ∧ True) → (13 - v4) * 1000 + 37 - v5 ≤ (fuel : Int) → G 24 [(0, vr 78), (1, vr 2), (2, vr 18), (3, vi a3), (4, vi v4), (5, vi v5)] [] (n, Z1, R0)) := by
    intro fuel
    induction fuel with
    | zero => exact ⟨(by intros; omega), (by intros; omega)⟩
    | succ fuel ih =>
      obtain ⟨ih8, ih24⟩ := ih
      refine ⟨?_, ?_⟩
      · intro Z1 v4 hI1 hk1 hv hm
        obtain ⟨w0, -⟩ := hv
        clear hk hI
        refine wq_run hG n R0 [8, 24] 900 _ _ _ _ ?_
        repeat' (first
            | with_reducible rfl
            | refine And.intro ?_ ?_
            | with_reducible exact True.intro
            | ((with_reducible show _ = true); rfl)
            | ((with_reducible show recvG _ _); rfl)
            | ((with_reducible show CI _); first | with_reducible assumption | assumption)
            | (fail_if_success (first | (with_reducible show _ ≤ _) | (with_reducible show _ = _) | (with_reducible show _ ∨ _) | (with_reducible show _ < _) | (with_reducible show G _ _ _ _))
               first
               | show G _ _ _ _
               | (intro (Z2 : ZT) hZ2; have hZ3 : Z' = Z2 := hZ2.symm; subst hZ3)
               | (intro (Z2 : ZT) hZ2; have hZ3 : Z1 = Z2 := hZ2.symm; subst hZ3)
               | (intro (Z2 : ZT) hZ2; have hZ3 : Z = Z2 := hZ2.symm; subst hZ3)
               | (refine ld_bnd (by first | with_reducible assumption | assumption) rfl ?_; intro _ _ _ _)
               | (refine st_bnd (by first | with_reducible assumption | assumption) (by first | with_reducible assumption | assumption) (by decide) (fun lo hi hb => by first | (cases hb; done) | (cases hb; constructor <;> (first | omega | (simp (disch := omega) only [w32_id, w64_id]; omega) | (simp (disch := omega) only [w32_id, w64_id] at *; omega) | (simp only [w32, w64] at *; omega) | exact (and32_le (by omega) (by omega)).1 | exact (and32_le (by omega) (by omega)).2 | exact (mulR (by omega) (by omega) (by omega) (by omega)).1 | exact (mulR (by omega) (by omega) (by omega) (by omega)).2 | (subst_vars; simp [upZ] at *; omega) | (subst_vars; simp [upZ] at *; simp only [w32, w64] at *; omega)))) ?_; intro Z' _ _ _)
               | (intro (r : Option PV) σ' hq
                  first
                  | (obtain ⟨rfl, rfl⟩ := hq)
                  | (obtain ⟨Z', x, rfl, rfl, hI2, hk2, hl2, hu2⟩ := hq; have hk3 := keeps_to (by first | with_reducible assumption | assumption) (by rfl) hk2; clear hk2)
                  | (obtain ⟨Z', x, rfl, rfl, hI2, hk2⟩ := hq; have hk3 := keeps_to (by first | with_reducible assumption | assumption) (by rfl) hk2; clear hk2)
                  | (rcases hq with ⟨Z', rfl, rfl, hI2, hk2⟩ | ⟨Z', rfl, rfl, hI2, hk2⟩ <;> (have hk3 := keeps_to (by first | with_reducible assumption | assumption) (by rfl) hk2; clear hk2))
                  | (obtain ⟨Z', rfl, rfl, hI2, hk2⟩ := hq; have hk3 := keeps_to (by first | with_reducible assumption | assumption) (by rfl) hk2; clear hk2))
               | (intro hc; (try simp only [cmp3_c] at hc); simp only [cmpI] at hc)
               | (show CI _; assumption)
               | intro (_ : Int)
               | intro (Z' : ZT)
               | intro (_ : CI _)
               | intro (_ : keeps _ _ _)
               | intro (_ : _ ≤ _)
               | intro (_ : _ = _)
               | intro (_ : _ < _)
               | intro (_ : _ ∨ _)))
        all_goals first
          | with_reducible rfl
          | ((with_reducible show _ = _); rfl)
          | ((with_reducible show recvG _ _); rfl)
          | with_reducible exact trivial
          | ((fail_if_success (first | (with_reducible show _ ≤ _) | (with_reducible show _ = _) | (with_reducible show _ ∨ _) | (with_reducible show _ < _) | (with_reducible show G _ _ _ _))); (refine Exists.intro _ (And.intro rfl (And.intro rfl (And.intro ?_ ?_)))) <;> with_reducible assumption)
          | ((with_reducible show G 8 _ _ _); exact hG.2 8 _ [(0, vr 78), (1, vr 2), (2, vr 18), (3, vi a3), (4, vi _)] _ _ rfl (ih8 _ _ (by assumption) (by assumption) (by refine ⟨by first | omega | (refine ⟨?_, ?_⟩ <;> (first | omega | (simp (disch := omega) only [w32_id, w64_id]; omega) | (simp (disch := omega) only [w32_id, w64_id] at *; omega) | (simp only [w32, w64] at *; omega) | exact (and32_le (by omega) (by omega)).1 | exact (and32_le (by omega) (by omega)).2 | exact (mulR (by omega) (by omega) (by omega) (by omega)).1 | exact (mulR (by omega) (by omega) (by omega) (by omega)).2 | (subst_vars; simp [upZ] at *; omega) | (subst_vars; simp [upZ] at *; simp only [w32, w64] at *; omega))) | (first | omega | (simp (disch := omega) only [w32_id, w64_id]; omega) | (simp (disch := omega) only [w32_id, w64_id] at *; omega) | (simp only [w32, w64] at *; omega) | exact (and32_le (by omega) (by omega)).1 | exact (and32_le (by omega) (by omega)).2 | exact (mulR (by omega) (by omega) (by omega) (by omega)).1 | exact (mulR (by omega) (by omega) (by omega) (by omega)).2 | (subst_vars; simp [upZ] at *; omega) | (subst_vars; simp [upZ] at *; simp only [w32, w64] at *; omega)), trivial⟩) (by first | omega | (simp (disch := omega) only [w32_id, w64_id]; omega) | (simp (disch := omega) only [w32_id, w64_id] at *; omega) | (simp only [w32, w64] at *; omega) | exact (and32_le (by omega) (by omega)).1 | exact (and32_le (by omega) (by omega)).2 | exact (mulR (by omega) (by omega) (by omega) (by omega)).1 | exact (mulR (by omega) (by omega) (by omega) (by omega)).2 | (subst_vars; simp [upZ] at *; omega) | (subst_vars; simp [upZ] at *; simp only [w32, w64] at *; omega))))
          | ((with_reducible show G 24 _ _ _); exact hG.2 24 _ [(0, vr 78), (1, vr 2), (2, vr 18), (3, vi a3), (4, vi _), (5, vi _)] _ _ rfl (ih24 _ _ _ (by assumption) (by assumption) (by refine ⟨by first | omega | (refine ⟨?_, ?_⟩ <;> (first | omega | (simp (disch := omega) only [w32_id, w64_id]; omega) | (simp (disch := omega) only [w32_id, w64_id] at *; omega) | (simp only [w32, w64] at *; omega) | exact (and32_le (by omega) (by omega)).1 | exact (and32_le (by omega) (by omega)).2 | exact (mulR (by omega) (by omega) (by omega) (by omega)).1 | exact (mulR (by omega) (by omega) (by omega) (by omega)).2 | (subst_vars; simp [upZ] at *; omega) | (subst_vars; simp [upZ] at *; simp only [w32, w64] at *; omega))) | (first | omega | (simp (disch := omega) only [w32_id, w64_id]; omega) | (simp (disch := omega) only [w32_id, w64_id] at *; omega) | (simp only [w32, w64] at *; omega) | exact (and32_le (by omega) (by omega)).1 | exact (and32_le (by omega) (by omega)).2 | exact (mulR (by omega) (by omega) (by omega) (by omega)).1 | exact (mulR (by omega) (by omega) (by omega) (by omega)).2 | (subst_vars; simp [upZ] at *; omega) | (subst_vars; simp [upZ] at *; simp only [w32, w64] at *; omega)), by first | omega | (refine ⟨?_, ?_⟩ <;> (first | omega | (simp (disch := omega) only [w32_id, w64_id]; omega) | (simp (disch := omega) only [w32_id, w64_id] at *; omega) | (simp only [w32, w64] at *; omega) | exact (and32_le (by omega) (by omega)).1 | exact (and32_le (by omega) (by omega)).2 | exact (mulR (by omega) (by omega) (by omega) (by omega)).1 | exact (mulR (by omega) (by omega) (by omega) (by omega)).2 | (subst_vars; simp [upZ] at *; omega) | (subst_vars; simp [upZ] at *; simp only [w32, w64] at *; omega))) | (first | omega | (simp (disch := omega) only [w32_id, w64_id]; omega) | (simp (disch := omega) only [w32_id, w64_id] at *; omega) | (simp only [w32, w64] at *; omega) | exact (and32_le (by omega) (by omega)).1 | exact (and32_le (by omega) (by omega)).2 | exact (mulR (by omega) (by omega) (by omega) (by omega)).1 | exact (mulR (by omega) (by omega) (by omega) (by omega)).2 | (subst_vars; simp [upZ] at *; omega) | (subst_vars; simp [upZ] at *; simp only [w32, w64] at *; omega)), trivial⟩) (by first | omega | (simp (disch := omega) only [w32_id, w64_id]; omega) | (simp (disch := omega) only [w32_id, w64_id] at *; omega) | (simp only [w32, w64] at *; omega) | exact (and32_le (by omega) (by omega)).1 | exact (and32_le (by omega) (by omega)).2 | exact (mulR (by omega) (by omega) (by omega) (by omega)).1 | exact (mulR (by omega) (by omega) (by omega) (by omega)).2 | (subst_vars; simp [upZ] at *; omega) | (subst_vars; simp [upZ] at *; simp only [w32, w64] at *; omega))))
          | ((fail_if_success (first | (with_reducible show _ ≤ _) | (with_reducible show _ = _) | (with_reducible show _ ∨ _) | (with_reducible show _ < _) | (with_reducible show G _ _ _ _))); exact Exists.intro _ (Exists.intro _ ⟨rfl, rfl, by assumption, by assumption, by (first | omega | (simp (disch := omega) only [w32_id, w64_id]; omega) | (simp (disch := omega) only [w32_id, w64_id] at *; omega) | (simp only [w32, w64] at *; omega) | exact (and32_le (by omega) (by omega)).1 | exact (and32_le (by omega) (by omega)).2 | exact (mulR (by omega) (by omega) (by omega) (by omega)).1 | exact (mulR (by omega) (by omega) (by omega) (by omega)).2 | (subst_vars; simp [upZ] at *; omega) | (subst_vars; simp [upZ] at *; simp only [w32, w64] at *; omega)), by (first | omega | (simp (disch := omega) only [w32_id, w64_id]; omega) | (simp (disch := omega) only [w32_id, w64_id] at *; omega) | (simp only [w32, w64] at *; omega) | exact (and32_le (by omega) (by omega)).1 | exact (and32_le (by omega) (by omega)).2 | exact (mulR (by omega) (by omega) (by omega) (by omega)).1 | exact (mulR (by omega) (by omega) (by omega) (by omega)).2 | (subst_vars; simp [upZ] at *; omega) | (subst_vars; simp [upZ] at *; simp only [w32, w64] at *; omega))⟩))
          | ((fail_if_success (first | (with_reducible show _ ≤ _) | (with_reducible show _ = _) | (with_reducible show _ ∨ _) | (with_reducible show _ < _) | (with_reducible show G _ _ _ _))); exact Exists.intro _ (Exists.intro _ ⟨rfl, rfl, by assumption, by assumption⟩))
          | ((fail_if_success (first | (with_reducible show _ ≤ _) | (with_reducible show _ = _) | (with_reducible show _ ∨ _) | (with_reducible show _ < _) | (with_reducible show G _ _ _ _))); exact Exists.intro _ ⟨rfl, rfl, by assumption, by assumption⟩)
          | ((fail_if_success (first | (with_reducible show _ ≤ _) | (with_reducible show _ = _) | (with_reducible show _ ∨ _) | (with_reducible show _ < _) | (with_reducible show G _ _ _ _))); exact Or.inl (Exists.intro _ ⟨rfl, rfl, by assumption, by assumption⟩))
          | ((fail_if_success (first | (with_reducible show _ ≤ _) | (with_reducible show _ = _) | (with_reducible show _ ∨ _) | (with_reducible show _ < _) | (with_reducible show G _ _ _ _))); exact Or.inr (Exists.intro _ ⟨rfl, rfl, by assumption, by assumption⟩))
          | omega
          | rfl
          | exact trivial
          | decide
          | (show (0 : Int) < _; omega)
          | (show (0 : Int) < _; simp only [w64] at *; omega)
          | (simp only [w32, w64] at *; omega)
          | (first | omega | (simp (disch := omega) only [w32_id, w64_id]; omega) | (simp (disch := omega) only [w32_id, w64_id] at *; omega) | (simp only [w32, w64] at *; omega) | exact (and32_le (by omega) (by omega)).1 | exact (and32_le (by omega) (by omega)).2 | exact (mulR (by omega) (by omega) (by omega) (by omega)).1 | exact (mulR (by omega) (by omega) (by omega) (by omega)).2 | (subst_vars; simp [upZ] at *; omega) | (subst_vars; simp [upZ] at *; simp only [w32, w64] at *; omega))
          | skip
      · intro Z1 v4 v5 hI1 hk1 hv hm
        obtain ⟨w0, w1, -⟩ := hv
        clear hk hI
        refine wq_run hG n R0 [8, 24] 900 _ _ _ _ ?_
        repeat' (first
            | with_reducible rfl
            | refine And.intro ?_ ?_
            | with_reducible exact True.intro
            | ((with_reducible show _ = true); rfl)
            | ((with_reducible show recvG _ _); rfl)
            | ((with_reducible show CI _); first | with_reducible assumption | assumption)
            | (fail_if_success (first | (with_reducible show _ ≤ _) | (with_reducible show _ = _) | (with_reducible show _ ∨ _) | (with_reducible show _ < _) | (with_reducible show G _ _ _ _))
               first
               | show G _ _ _ _
               | (intro (Z2 : ZT) hZ2; have hZ3 : Z' = Z2 := hZ2.symm; subst hZ3)
               | (intro (Z2 : ZT) hZ2; have hZ3 : Z1 = Z2 := hZ2.symm; subst hZ3)
               | (intro (Z2 : ZT) hZ2; have hZ3 : Z = Z2 := hZ2.symm; subst hZ3)
               | (refine ld_bnd (by first | with_reducible assumption | assumption) rfl ?_; intro _ _ _ _)
               | (refine st_bnd (by first | with_reducible assumption | assumption) (by first | with_reducible assumption | assumption) (by decide) (fun lo hi hb => by first | (cases hb; done) | (cases hb; constructor <;> (first | omega | (simp (disch := omega) only [w32_id, w64_id]; omega) | (simp (disch := omega) only [w32_id, w64_id] at *; omega) | (simp only [w32, w64] at *; omega) | exact (and32_le (by omega) (by omega)).1 | exact (and32_le (by omega) (by omega)).2 | exact (mulR (by omega) (by omega) (by omega) (by omega)).1 | exact (mulR (by omega) (by omega) (by omega) (by omega)).2 | (subst_vars; simp [upZ] at *; omega) | (subst_vars; simp [upZ] at *; simp only [w32, w64] at *; omega)))) ?_; intro Z' _ _ _)
               | (intro (r : Option PV) σ' hq
                  first
                  | (obtain ⟨rfl, rfl⟩ := hq)
                  | (obtain ⟨Z', x, rfl, rfl, hI2, hk2, hl2, hu2⟩ := hq; have hk3 := keeps_to (by first | with_reducible assumption | assumption) (by rfl) hk2; clear hk2)
                  | (obtain ⟨Z', x, rfl, rfl, hI2, hk2⟩ := hq; have hk3 := keeps_to (by first | with_reducible assumption | assumption) (by rfl) hk2; clear hk2)
                  | (rcases hq with ⟨Z', rfl, rfl, hI2, hk2⟩ | ⟨Z', rfl, rfl, hI2, hk2⟩ <;> (have hk3 := keeps_to (by first | with_reducible assumption | assumption) (by rfl) hk2; clear hk2))
                  | (obtain ⟨Z', rfl, rfl, hI2, hk2⟩ := hq; have hk3 := keeps_to (by first | with_reducible assumption | assumption) (by rfl) hk2; clear hk2))
               | (intro hc; (try simp only [cmp3_c] at hc); simp only [cmpI] at hc)
               | (show CI _; assumption)
               | intro (_ : Int)
               | intro (Z' : ZT)
               | intro (_ : CI _)
               | intro (_ : keeps _ _ _)
               | intro (_ : _ ≤ _)
               | intro (_ : _ = _)
               | intro (_ : _ < _)
               | intro (_ : _ ∨ _)))
        all_goals first
          | with_reducible rfl
          | ((with_reducible show _ = _); rfl)
          | ((with_reducible show recvG _ _); rfl)
          | with_reducible exact trivial
          | ((fail_if_success (first | (with_reducible show _ ≤ _) | (with_reducible show _ = _) | (with_reducible show _ ∨ _) | (with_reducible show _ < _) | (with_reducible show G _ _ _ _))); (refine Exists.intro _ (And.intro rfl (And.intro rfl (And.intro ?_ ?_)))) <;> with_reducible assumption)
          | ((with_reducible show G 8 _ _ _); exact hG.2 8 _ [(0, vr 78), (1, vr 2), (2, vr 18), (3, vi a3), (4, vi _)] _ _ rfl (ih8 _ _ (by assumption) (by assumption) (by refine ⟨by first | omega | (refine ⟨?_, ?_⟩ <;> (first | omega | (simp (disch := omega) only [w32_id, w64_id]; omega) | (simp (disch := omega) only [w32_id, w64_id] at *; omega) | (simp only [w32, w64] at *; omega) | exact (and32_le (by omega) (by omega)).1 | exact (and32_le (by omega) (by omega)).2 | exact (mulR (by omega) (by omega) (by omega) (by omega)).1 | exact (mulR (by omega) (by omega) (by omega) (by omega)).2 | (subst_vars; simp [upZ] at *; omega) | (subst_vars; simp [upZ] at *; simp only [w32, w64] at *; omega))) | (first | omega | (simp (disch := omega) only [w32_id, w64_id]; omega) | (simp (disch := omega) only [w32_id, w64_id] at *; omega) | (simp only [w32, w64] at *; omega) | exact (and32_le (by omega) (by omega)).1 | exact (and32_le (by omega) (by omega)).2 | exact (mulR (by omega) (by omega) (by omega) (by omega)).1 | exact (mulR (by omega) (by omega) (by omega) (by omega)).2 | (subst_vars; simp [upZ] at *; omega) | (subst_vars; simp [upZ] at *; simp only [w32, w64] at *; omega)), trivial⟩) (by first | omega | (simp (disch := omega) only [w32_id, w64_id]; omega) | (simp (disch := omega) only [w32_id, w64_id] at *; omega) | (simp only [w32, w64] at *; omega) | exact (and32_le (by omega) (by omega)).1 | exact (and32_le (by omega) (by omega)).2 | exact (mulR (by omega) (by omega) (by omega) (by omega)).1 | exact (mulR (by omega) (by omega) (by omega) (by omega)).2 | (subst_vars; simp [upZ] at *; omega) | (subst_vars; simp [upZ] at *; simp only [w32, w64] at *; omega))))
          | ((with_reducible show G 24 _ _ _); exact hG.2 24 _ [(0, vr 78), (1, vr 2), (2, vr 18), (3, vi a3), (4, vi _), (5, vi _)] _ _ rfl (ih24 _ _ _ (by assumption) (by assumption) (by refine ⟨by first | omega | (refine ⟨?_, ?_⟩ <;> (first | omega | (simp (disch := omega) only [w32_id, w64_id]; omega) | (simp (disch := omega) only [w32_id, w64_id] at *; omega) | (simp only [w32, w64] at *; omega) | exact (and32_le (by omega) (by omega)).1 | exact (and32_le (by omega) (by omega)).2 | exact (mulR (by omega) (by omega) (by omega) (by omega)).1 | exact (mulR (by omega) (by omega) (by omega) (by omega)).2 | (subst_vars; simp [upZ] at *; omega) | (subst_vars; simp [upZ] at *; simp only [w32, w64] at *; omega))) | (first | omega | (simp (disch := omega) only [w32_id, w64_id]; omega) | (simp (disch := omega) only [w32_id, w64_id] at *; omega) | (simp only [w32, w64] at *; omega) | exact (and32_le (by omega) (by omega)).1 | exact (and32_le (by omega) (by omega)).2 | exact (mulR (by omega) (by omega) (by omega) (by omega)).1 | exact (mulR (by omega) (by omega) (by omega) (by omega)).2 | (subst_vars; simp [upZ] at *; omega) | (subst_vars; simp [upZ] at *; simp only [w32, w64] at *; omega)), by first | omega | (refine ⟨?_, ?_⟩ <;> (first | omega | (simp (disch := omega) only [w32_id, w64_id]; omega) | (simp (disch := omega) only [w32_id, w64_id] at *; omega) | (simp only [w32, w64] at *; omega) | exact (and32_le (by omega) (by omega)).1 | exact (and32_le (by omega) (by omega)).2 | exact (mulR (by omega) (by omega) (by omega) (by omega)).1 | exact (mulR (by omega) (by omega) (by omega) (by omega)).2 | (subst_vars; simp [upZ] at *; omega) | (subst_vars; simp [upZ] at *; simp only [w32, w64] at *; omega))) | (first | omega | (simp (disch := omega) only [w32_id, w64_id]; omega) | (simp (disch := omega) only [w32_id, w64_id] at *; omega) | (simp only [w32, w64] at *; omega) | exact (and32_le (by omega) (by omega)).1 | exact (and32_le (by omega) (by omega)).2 | exact (mulR (by omega) (by omega) (by omega) (by omega)).1 | exact (mulR (by omega) (by omega) (by omega) (by omega)).2 | (subst_vars; simp [upZ] at *; omega) | (subst_vars; simp [upZ] at *; simp only [w32, w64] at *; omega)), trivial⟩) (by first | omega | (simp (disch := omega) only [w32_id, w64_id]; omega) | (simp (disch := omega) only [w32_id, w64_id] at *; omega) | (simp only [w32, w64] at *; omega) | exact (and32_le (by omega) (by omega)).1 | exact (and32_le (by omega) (by omega)).2 | exact (mulR (by omega) (by omega) (by omega) (by omega)).1 | exact (mulR (by omega) (by omega) (by omega) (by omega)).2 | (subst_vars; simp [upZ] at *; omega) | (subst_vars; simp [upZ] at *; simp only [w32, w64] at *; omega))))
          | ((fail_if_success (first | (with_reducible show _ ≤ _) | (with_reducible show _ = _) | (with_reducible show _ ∨ _) | (with_reducible show _ < _) | (with_reducible show G _ _ _ _))); exact Exists.intro _ (Exists.intro _ ⟨rfl, rfl, by assumption, by assumption, by (first | omega | (simp (disch := omega) only [w32_id, w64_id]; omega) | (simp (disch := omega) only [w32_id, w64_id] at *; omega) | (simp only [w32, w64] at *; omega) | exact (and32_le (by omega) (by omega)).1 | exact (and32_le (by omega) (by omega)).2 | exact (mulR (by omega) (by omega) (by omega) (by omega)).1 | exact (mulR (by omega) (by omega) (by omega) (by omega)).2 | (subst_vars; simp [upZ] at *; omega) | (subst_vars; simp [upZ] at *; simp only [w32, w64] at *; omega)), by (first | omega | (simp (disch := omega) only [w32_id, w64_id]; omega) | (simp (disch := omega) only [w32_id, w64_id] at *; omega) | (simp only [w32, w64] at *; omega) | exact (and32_le (by omega) (by omega)).1 | exact (and32_le (by omega) (by omega)).2 | exact (mulR (by omega) (by omega) (by omega) (by omega)).1 | exact (mulR (by omega) (by omega) (by omega) (by omega)).2 | (subst_vars; simp [upZ] at *; omega) | (subst_vars; simp [upZ] at *; simp only [w32, w64] at *; omega))⟩))
          | ((fail_if_success (first | (with_reducible show _ ≤ _) | (with_reducible show _ = _) | (with_reducible show _ ∨ _) | (with_reducible show _ < _) | (with_reducible show G _ _ _ _))); exact Exists.intro _ (Exists.intro _ ⟨rfl, rfl, by assumption, by assumption⟩))
          | ((fail_if_success (first | (with_reducible show _ ≤ _) | (with_reducible show _ = _) | (with_reducible show _ ∨ _) | (with_reducible show _ < _) | (with_reducible show G _ _ _ _))); exact Exists.intro _ ⟨rfl, rfl, by assumption, by assumption⟩)
          | ((fail_if_success (first | (with_reducible show _ ≤ _) | (with_reducible show _ = _) | (with_reducible show _ ∨ _) | (with_reducible show _ < _) | (with_reducible show G _ _ _ _))); exact Or.inl (Exists.intro _ ⟨rfl, rfl, by assumption, by assumption⟩))
          | ((fail_if_success (first | (with_reducible show _ ≤ _) | (with_reducible show _ = _) | (with_reducible show _ ∨ _) | (with_reducible show _ < _) | (with_reducible show G _ _ _ _))); exact Or.inr (Exists.intro _ ⟨rfl, rfl, by assumption, by assumption⟩))
          | omega
          | rfl
          | exact trivial
          | decide
          | (show (0 : Int) < _; omega)
          | (show (0 : Int) < _; simp only [w64] at *; omega)
          | (simp only [w32, w64] at *; omega)
          | (first | omega | (simp (disch := omega) only [w32_id, w64_id]; omega) | (simp (disch := omega) only [w32_id, w64_id] at *; omega) | (simp only [w32, w64] at *; omega) | exact (and32_le (by omega) (by omega)).1 | exact (and32_le (by omega) (by omega)).2 | exact (mulR (by omega) (by omega) (by omega) (by omega)).1 | exact (mulR (by omega) (by omega) (by omega) (by omega)).2 | (subst_vars; simp [upZ] at *; omega) | (subst_vars; simp [upZ] at *; simp only [w32, w64] at *; omega))
          | skip
  refine wq_run hG n R0 [8, 24] 900 _ _ _ _ ?_
  repeat' (first
      | with_reducible rfl
      | refine And.intro ?_ ?_
      | with_reducible exact True.intro
      | ((with_reducible show _ = true); rfl)
      | ((with_reducible show recvG _ _); rfl)
      | ((with_reducible show CI _); first | with_reducible assumption | assumption)
      | (fail_if_success (first | (with_reducible show _ ≤ _) | (with_reducible show _ = _) | (with_reducible show _ ∨ _) | (with_reducible show _ < _) | (with_reducible show G _ _ _ _))
         first
         | show G _ _ _ _
         | (intro (Z2 : ZT) hZ2; have hZ3 : Z' = Z2 := hZ2.symm; subst hZ3)
         | (intro (Z2 : ZT) hZ2; have hZ3 : Z1 = Z2 := hZ2.symm; subst hZ3)
         | (intro (Z2 : ZT) hZ2; have hZ3 : Z = Z2 := hZ2.symm; subst hZ3)
         | (refine ld_bnd (by first | with_reducible assumption | assumption) rfl ?_; intro _ _ _ _)
         | (refine st_bnd (by first | with_reducible assumption | assumption) (by first | with_reducible assumption | assumption) (by decide) (fun lo hi hb => by first | (cases hb; done) | (cases hb; constructor <;> (first | omega | (simp (disch := omega) only [w32_id, w64_id]; omega) | (simp (disch := omega) only [w32_id, w64_id] at *; omega) | (simp only [w32, w64] at *; omega) | exact (and32_le (by omega) (by omega)).1 | exact (and32_le (by omega) (by omega)).2 | exact (mulR (by omega) (by omega) (by omega) (by omega)).1 | exact (mulR (by omega) (by omega) (by omega) (by omega)).2 | (subst_vars; simp [upZ] at *; omega) | (subst_vars; simp [upZ] at *; simp only [w32, w64] at *; omega)))) ?_; intro Z' _ _ _)
         | (intro (r : Option PV) σ' hq
            first
            | (obtain ⟨rfl, rfl⟩ := hq)
            | (obtain ⟨Z', x, rfl, rfl, hI2, hk2, hl2, hu2⟩ := hq; have hk3 := keeps_to (by first | with_reducible assumption | assumption) (by rfl) hk2; clear hk2)
            | (obtain ⟨Z', x, rfl, rfl, hI2, hk2⟩ := hq; have hk3 := keeps_to (by first | with_reducible assumption | assumption) (by rfl) hk2; clear hk2)
            | (rcases hq with ⟨Z', rfl, rfl, hI2, hk2⟩ | ⟨Z', rfl, rfl, hI2, hk2⟩ <;> (have hk3 := keeps_to (by first | with_reducible assumption | assumption) (by rfl) hk2; clear hk2))
            | (obtain ⟨Z', rfl, rfl, hI2, hk2⟩ := hq; have hk3 := keeps_to (by first | with_reducible assumption | assumption) (by rfl) hk2; clear hk2))
         | (intro hc; (try simp only [cmp3_c] at hc); simp only [cmpI] at hc)
         | (show CI _; assumption)
         | intro (_ : Int)
         | intro (Z' : ZT)
         | intro (_ : CI _)
         | intro (_ : keeps _ _ _)
         | intro (_ : _ ≤ _)
         | intro (_ : _ = _)
         | intro (_ : _ < _)
         | intro (_ : _ ∨ _)))
  all_goals (try obtain ⟨lp8, lp24⟩ := loop 1000000)
  all_goals first
    | with_reducible rfl
    | ((with_reducible show _ = _); rfl)
    | ((with_reducible show recvG _ _); rfl)
    | with_reducible exact trivial
    | ((fail_if_success (first | (with_reducible show _ ≤ _) | (with_reducible show _ = _) | (with_reducible show _ ∨ _) | (with_reducible show _ < _) | (with_reducible show G _ _ _ _))); (refine Exists.intro _ (And.intro rfl (And.intro rfl (And.intro ?_ ?_)))) <;> with_reducible assumption)
    | ((with_reducible show G 8 _ _ _); exact hG.2 8 _ [(0, vr 78), (1, vr 2), (2, vr 18), (3, vi a3), (4, vi _)] _ _ rfl (lp8 _ _ (by assumption) (by assumption) (by refine ⟨by first | omega | (refine ⟨?_, ?_⟩ <;> (first | omega | (simp (disch := omega) only [w32_id, w64_id]; omega) | (simp (disch := omega) only [w32_id, w64_id] at *; omega) | (simp only [w32, w64] at *; omega) | exact (and32_le (by omega) (by omega)).1 | exact (and32_le (by omega) (by omega)).2 | exact (mulR (by omega) (by omega) (by omega) (by omega)).1 | exact (mulR (by omega) (by omega) (by omega) (by omega)).2 | (subst_vars; simp [upZ] at *; omega) | (subst_vars; simp [upZ] at *; simp only [w32, w64] at *; omega))) | (first | omega | (simp (disch := omega) only [w32_id, w64_id]; omega) | (simp (disch := omega) only [w32_id, w64_id] at *; omega) | (simp only [w32, w64] at *; omega) | exact (and32_le (by omega) (by omega)).1 | exact (and32_le (by omega) (by omega)).2 | exact (mulR (by omega) (by omega) (by omega) (by omega)).1 | exact (mulR (by omega) (by omega) (by omega) (by omega)).2 | (subst_vars; simp [upZ] at *; omega) | (subst_vars; simp [upZ] at *; simp only [w32, w64] at *; omega)), trivial⟩) (by first | omega | (simp (disch := omega) only [w32_id, w64_id]; omega) | (simp (disch := omega) only [w32_id, w64_id] at *; omega) | (simp only [w32, w64] at *; omega) | exact (and32_le (by omega) (by omega)).1 | exact (and32_le (by omega) (by omega)).2 | exact (mulR (by omega) (by omega) (by omega) (by omega)).1 | exact (mulR (by omega) (by omega) (by omega) (by omega)).2 | (subst_vars; simp [upZ] at *; omega) | (subst_vars; simp [upZ] at *; simp only [w32, w64] at *; omega))))
    | ((with_reducible show G 24 _ _ _); exact hG.2 24 _ [(0, vr 78), (1, vr 2), (2, vr 18), (3, vi a3), (4, vi _), (5, vi _)] _ _ rfl (lp24 _ _ _ (by assumption) (by assumption) (by refine ⟨by first | omega | (refine ⟨?_, ?_⟩ <;> (first | omega | (simp (disch := omega) only [w32_id, w64_id]; omega) | (simp (disch := omega) only [w32_id, w64_id] at *; omega) | (simp only [w32, w64] at *; omega) | exact (and32_le (by omega) (by omega)).1 | exact (and32_le (by omega) (by omega)).2 | exact (mulR (by omega) (by omega) (by omega) (by omega)).1 | exact (mulR (by omega) (by omega) (by omega) (by omega)).2 | (subst_vars; simp [upZ] at *; omega) | (subst_vars; simp [upZ] at *; simp only [w32, w64] at *; omega))) | (first | omega | (simp (disch := omega) only [w32_id, w64_id]; omega) | (simp (disch := omega) only [w32_id, w64_id] at *; omega) | (simp only [w32, w64] at *; omega) | exact (and32_le (by omega) (by omega)).1 | exact (and32_le (by omega) (by omega)).2 | exact (mulR (by omega) (by omega) (by omega) (by omega)).1 | exact (mulR (by omega) (by omega) (by omega) (by omega)).2 | (subst_vars; simp [upZ] at *; omega) | (subst_vars; simp [upZ] at *; simp only [w32, w64] at *; omega)), by first | omega | (refine ⟨?_, ?_⟩ <;> (first | omega | (simp (disch := omega) only [w32_id, w64_id]; omega) | (simp (disch := omega) only [w32_id, w64_id] at *; omega) | (simp only [w32, w64] at *; omega) | exact (and32_le (by omega) (by omega)).1 | exact (and32_le (by omega) (by omega)).2 | exact (mulR (by omega) (by omega) (by omega) (by omega)).1 | exact (mulR (by omega) (by omega) (by omega) (by omega)).2 | (subst_vars; simp [upZ] at *; omega) | (subst_vars; simp [upZ] at *; simp only [w32, w64] at *; omega))) | (first | omega | (simp (disch := omega) only [w32_id, w64_id]; omega) | (simp (disch := omega) only [w32_id, w64_id] at *; omega) | (simp only [w32, w64] at *; omega) | exact (and32_le (by omega) (by omega)).1 | exact (and32_le (by omega) (by omega)).2 | exact (mulR (by omega) (by omega) (by omega) (by omega)).1 | exact (mulR (by omega) (by omega) (by omega) (by omega)).2 | (subst_vars; simp [upZ] at *; omega) | (subst_vars; simp [upZ] at *; simp only [w32, w64] at *; omega)), trivial⟩) (by first | omega | (simp (disch := omega) only [w32_id, w64_id]; omega) | (simp (disch := omega) only [w32_id, w64_id] at *; omega) | (simp only [w32, w64] at *; omega) | exact (and32_le (by omega) (by omega)).1 | exact (and32_le (by omega) (by omega)).2 | exact (mulR (by omega) (by omega) (by omega) (by omega)).1 | exact (mulR (by omega) (by omega) (by omega) (by omega)).2 | (subst_vars; simp [upZ] at *; omega) | (subst_vars; simp [upZ] at *; simp only [w32, w64] at *; omega))))
    | ((fail_if_success (first | (with_reducible show _ ≤ _) | (with_reducible show _ = _) | (with_reducible show _ ∨ _) | (with_reducible show _ < _) | (with_reducible show G _ _ _ _))); exact Exists.intro _ (Exists.intro _ ⟨rfl, rfl, by assumption, by assumption, by (first | omega | (simp (disch := omega) only [w32_id, w64_id]; omega) | (simp (disch := omega) only [w32_id, w64_id] at *; omega) | (simp only [w32, w64] at *; omega) | exact (and32_le (by omega) (by omega)).1 | exact (and32_le (by omega) (by omega)).2 | exact (mulR (by omega) (by omega) (by omega) (by omega)).1 | exact (mulR (by omega) (by omega) (by omega) (by omega)).2 | (subst_vars; simp [upZ] at *; omega) | (subst_vars; simp [upZ] at *; simp only [w32, w64] at *; omega)), by (first | omega | (simp (disch := omega) only [w32_id, w64_id]; omega) | (simp (disch := omega) only [w32_id, w64_id] at *; omega) | (simp only [w32, w64] at *; omega) | exact (and32_le (by omega) (by omega)).1 | exact (and32_le (by omega) (by omega)).2 | exact (mulR (by omega) (by omega) (by omega) (by omega)).1 | exact (mulR (by omega) (by omega) (by omega) (by omega)).2 | (subst_vars; simp [upZ] at *; omega) | (subst_vars; simp [upZ] at *; simp only [w32, w64] at *; omega))⟩))
    | ((fail_if_success (first | (with_reducible show _ ≤ _) | (with_reducible show _ = _) | (with_reducible show _ ∨ _) | (with_reducible show _ < _) | (with_reducible show G _ _ _ _))); exact Exists.intro _ (Exists.intro _ ⟨rfl, rfl, by assumption, by assumption⟩))
    | ((fail_if_success (first | (with_reducible show _ ≤ _) | (with_reducible show _ = _) | (with_reducible show _ ∨ _) | (with_reducible show _ < _) | (with_reducible show G _ _ _ _))); exact Exists.intro _ ⟨rfl, rfl, by assumption, by assumption⟩)
    | ((fail_if_success (first | (with_reducible show _ ≤ _) | (with_reducible show _ = _) | (with_reducible show _ ∨ _) | (with_reducible show _ < _) | (with_reducible show G _ _ _ _))); exact Or.inl (Exists.intro _ ⟨rfl, rfl, by assumption, by assumption⟩))
    | ((fail_if_success (first | (with_reducible show _ ≤ _) | (with_reducible show _ = _) | (with_reducible show _ ∨ _) | (with_reducible show _ < _) | (with_reducible show G _ _ _ _))); exact Or.inr (Exists.intro _ ⟨rfl, rfl, by assumption, by assumption⟩))
    | omega
    | rfl
    | exact trivial
    | decide
    | (show (0 : Int) < _; omega)
    | (show (0 : Int) < _; simp only [w64] at *; omega)
    | (simp only [w32, w64] at *; omega)
    | (first | omega | (simp (disch := omega) only [w32_id, w64_id]; omega) | (simp (disch := omega) only [w32_id, w64_id] at *; omega) | (simp only [w32, w64] at *; omega) | exact (and32_le (by omega) (by omega)).1 | exact (and32_le (by omega) (by omega)).2 | exact (mulR (by omega) (by omega) (by omega) (by omega)).1 | exact (mulR (by omega) (by omega) (by omega) (by omega)).2 | (subst_vars; simp [upZ] at *; omega) | (subst_vars; simp [upZ] at *; simp only [w32, w64] at *; omega))
    | skip
