/-! ===== weak contracts: share, checks ===== -/
def s_X8_find : Sp := wspV 5 8 (fun as Z => match as with
    | [.inr (.inr a0), .inr (.inr a1), .inr (.inr a2), .inl a3, .inl a4] => ((a0 = 93)) ∧ ((a1 = 2)) ∧ ((a2 = 86)) ∧ ((1 ≤ a3 ∧ a3 ≤ 3)) ∧ ((0 ≤ a4 ∧ a4 ≤ 12)) ∧ True
    | _ => False) (fun as => match as with
    | [.inr (.inr a0), .inr (.inr a1), .inr (.inr a2), .inl a3, .inl a4] => [93, 94, 95, 96, 97, 98, 99]
    | _ => [])
set_option maxRecDepth 100000 in
set_option maxHeartbeats 40000000 in
theorem c_X8_find {l : Launch} {D : va_G} {cA : Nat → ClassId} : PM l D cA yX8_find cX8_find 7 none 5 127 s_X8_find := by
  refine of_X8_find (c_X9_deal) ⟨rfl, rfl⟩ (c_X9_endsAhead) ⟨rfl, rfl⟩ (c_X8_take) ⟨rfl, rfl⟩ (fun as σ hwf hao hpre => ?_)
  obtain ⟨n, Z, R⟩ := σ
  obtain ⟨hR, hI, hpre⟩ := hpre
  obtain rfl : R = R0 := hR
  rcases as with _ | ⟨x | x | a0, _ | ⟨x | x | a1, _ | ⟨x | x | a2, _ | ⟨a3 | x | x, _ | ⟨a4 | x | x, _ | ⟨v, t⟩⟩⟩⟩⟩⟩ <;> first | exact (hpre : False).elim | skip
  obtain ⟨k3l, k3u⟩ : okI a3 := hao (vi a3) (by simp)
  obtain ⟨k4l, k4u⟩ : okI a4 := hao (vi a4) (by simp)
  obtain ⟨h0, h1, h2, h3, h4, -⟩ := hpre
  have hk : keeps ([93, 94, 95, 96, 97, 98, 99]) Z Z := keeps_refl
  refine ⟨Nat.le_of_ble_eq_true rfl, fun G hG => ?_⟩
  clear hao hwf
  obtain rfl := h0
  obtain rfl := h1
  obtain rfl := h2
  have loop : ∀ fuel : Nat, (∀ (Z1 : ZT) (v5 : Int) (v6 : Int), CI Z1 → keeps ([93, 94, 95, 96, 97, 98, 99]) Z Z1 → (((-2147483648) ≤ v5 ∧ v5 ≤ 2147483647) ∧ (0 ≤ v6 ∧ v6 ≤ 9) ∧ True) → 9000000000 - v6 ≤ (fuel : Int) → G 41 [(0, vr 93), (1, vr 2), (2, vr 86), (3, vi a3), (4, vi a4), (5, vi v5), (6, vi v6)] [] (n, Z1, R0)) ∧ (∀ (Z1 : ZT) (v5 : Int) (v6 : Int), CI Z1 → keeps ([93, 94, 95, 96, 97, 98, 99]) Z Z1 → (((-2147483648) ≤ v5 ∧ v5 ≤ 2147483647) ∧ (0 ≤ v6) ∧ (v6 = 0 ∨ v6 ≤ v5) ∧ True) → v5 - v6 + 2147483650 ≤ (fuel : Int) → G 72 [(0, vr 93), (1, vr 2), (2, vr 86), (3, vi a3), (4, vi a4), (5, vi v5), (6, vi v6)] [] (n, Z1, R0)) := by
    intro fuel
    induction fuel with
    | zero => exact ⟨(by intros; omega), (by intros; omega)⟩
    | succ fuel ih =>
      obtain ⟨ih41, ih72⟩ := ih
      refine ⟨?_, ?_⟩
      · intro Z1 v5 v6 hI1 hk1 hv hm
        obtain ⟨w0, w1, -⟩ := hv
        clear hk hI
        refine wq_run hG n R0 [41, 72] 900 _ _ _ _ ?_
        repeat' (first
            | with_reducible rfl
            | refine And.intro ?_ ?_
            | with_reducible exact True.intro
            | ((with_reducible show _ = true); rfl)
            | ((with_reducible show recvG _ _); rfl)
            | ((with_reducible show CI _); first | with_reducible assumption | assumption)
            | (fail_if_success (first | (with_reducible show _ ≤ _) | (with_reducible show _ = _) | (with_reducible show _ ∨ _) | (with_reducible show _ < _) | (with_reducible show G _ _ _ _))
               first
               | show G _ _ _ _
               | (intro (Z2 : ZT) hZ2; have hZ3 : Z' = Z2 := hZ2.symm; subst hZ3)
               | (intro (Z2 : ZT) hZ2; have hZ3 : Z1 = Z2 := hZ2.symm; subst hZ3)
               | (intro (Z2 : ZT) hZ2; have hZ3 : Z = Z2 := hZ2.symm; subst hZ3)
               | (refine ld_bnd (by first | with_reducible assumption | assumption) rfl ?_; intro _ _ _ _)
               | (refine st_bnd (by first | with_reducible assumption | assumption) (by first | with_reducible assumption | assumption) (by decide) (fun lo hi hb => by first | (cases hb; done) | (cases hb; constructor <;> (first | omega | (simp (disch := omega) only [w32_id, w64_id]; omega) | (simp (disch := omega) only [w32_id, w64_id] at *; omega) | (simp only [w32, w64] at *; omega) | exact (and32_le (by omega) (by omega)).1 | exact (and32_le (by omega) (by omega)).2 | exact (mulR (by omega) (by omega) (by omega) (by omega)).1 | exact (mulR (by omega) (by omega) (by omega) (by omega)).2 | (subst_vars; simp [upZ] at *; omega) | (subst_vars; simp [upZ] at *; simp only [w32, w64] at *; omega)))) ?_; intro Z' _ _ _)
               | (intro (r : Option PV) σ' hq
                  first
                  | (obtain ⟨rfl, rfl⟩ := hq)
                  | (obtain ⟨Z', x, rfl, rfl, hI2, hk2, hl2, hu2⟩ := hq; have hk3 := keeps_to (by first | with_reducible assumption | assumption) (by rfl) hk2; clear hk2)
                  | (obtain ⟨Z', x, rfl, rfl, hI2, hk2⟩ := hq; have hk3 := keeps_to (by first | with_reducible assumption | assumption) (by rfl) hk2; clear hk2)
                  | (rcases hq with ⟨Z', rfl, rfl, hI2, hk2⟩ | ⟨Z', rfl, rfl, hI2, hk2⟩ <;> (have hk3 := keeps_to (by first | with_reducible assumption | assumption) (by rfl) hk2; clear hk2))
                  | (obtain ⟨Z', rfl, rfl, hI2, hk2⟩ := hq; have hk3 := keeps_to (by first | with_reducible assumption | assumption) (by rfl) hk2; clear hk2))
               | (intro hc; (try simp only [cmp3_c] at hc); simp only [cmpI] at hc)
               | (show CI _; assumption)
               | intro (_ : Int)
               | intro (Z' : ZT)
               | intro (_ : CI _)
               | intro (_ : keeps _ _ _)
               | intro (_ : _ ≤ _)
               | intro (_ : _ = _)
               | intro (_ : _ < _)
               | intro (_ : _ ∨ _)))
        all_goals first
          | with_reducible rfl
          | ((with_reducible show _ = _); rfl)
          | ((with_reducible show recvG _ _); rfl)
          | with_reducible exact trivial
          | ((fail_if_success (first | (with_reducible show _ ≤ _) | (with_reducible show _ = _) | (with_reducible show _ ∨ _) | (with_reducible show _ < _) | (with_reducible show G _ _ _ _))); (refine Exists.intro _ (And.intro rfl (And.intro rfl (And.intro ?_ ?_)))) <;> with_reducible assumption)
          | ((with_reducible show G 41 _ _ _); exact hG.2 41 _ [(0, vr 93), (1, vr 2), (2, vr 86), (3, vi a3), (4, vi a4), (5, vi _), (6, vi _)] _ _ rfl (ih41 _ _ _ (by assumption) (by assumption) (by refine ⟨by first | omega | (refine ⟨?_, ?_⟩ <;> (first | omega | (simp (disch := omega) only [w32_id, w64_id]; omega) | (simp (disch := omega) only [w32_id, w64_id] at *; omega) | (simp only [w32, w64] at *; omega) | exact (and32_le (by omega) (by omega)).1 | exact (and32_le (by omega) (by omega)).2 | exact (mulR (by omega) (by omega) (by omega) (by omega)).1 | exact (mulR (by omega) (by omega) (by omega) (by omega)).2 | (subst_vars; simp [upZ] at *; omega) | (subst_vars; simp [upZ] at *; simp only [w32, w64] at *; omega))) | (first | omega | (simp (disch := omega) only [w32_id, w64_id]; omega) | (simp (disch := omega) only [w32_id, w64_id] at *; omega) | (simp only [w32, w64] at *; omega) | exact (and32_le (by omega) (by omega)).1 | exact (and32_le (by omega) (by omega)).2 | exact (mulR (by omega) (by omega) (by omega) (by omega)).1 | exact (mulR (by omega) (by omega) (by omega) (by omega)).2 | (subst_vars; simp [upZ] at *; omega) | (subst_vars; simp [upZ] at *; simp only [w32, w64] at *; omega)), by first | omega | (refine ⟨?_, ?_⟩ <;> (first | omega | (simp (disch := omega) only [w32_id, w64_id]; omega) | (simp (disch := omega) only [w32_id, w64_id] at *; omega) | (simp only [w32, w64] at *; omega) | exact (and32_le (by omega) (by omega)).1 | exact (and32_le (by omega) (by omega)).2 | exact (mulR (by omega) (by omega) (by omega) (by omega)).1 | exact (mulR (by omega) (by omega) (by omega) (by omega)).2 | (subst_vars; simp [upZ] at *; omega) | (subst_vars; simp [upZ] at *; simp only [w32, w64] at *; omega))) | (first | omega | (simp (disch := omega) only [w32_id, w64_id]; omega) | (simp (disch := omega) only [w32_id, w64_id] at *; omega) | (simp only [w32, w64] at *; omega) | exact (and32_le (by omega) (by omega)).1 | exact (and32_le (by omega) (by omega)).2 | exact (mulR (by omega) (by omega) (by omega) (by omega)).1 | exact (mulR (by omega) (by omega) (by omega) (by omega)).2 | (subst_vars; simp [upZ] at *; omega) | (subst_vars; simp [upZ] at *; simp only [w32, w64] at *; omega)), trivial⟩) (by first | omega | (simp (disch := omega) only [w32_id, w64_id]; omega) | (simp (disch := omega) only [w32_id, w64_id] at *; omega) | (simp only [w32, w64] at *; omega) | exact (and32_le (by omega) (by omega)).1 | exact (and32_le (by omega) (by omega)).2 | exact (mulR (by omega) (by omega) (by omega) (by omega)).1 | exact (mulR (by omega) (by omega) (by omega) (by omega)).2 | (subst_vars; simp [upZ] at *; omega) | (subst_vars; simp [upZ] at *; simp only [w32, w64] at *; omega))))
          | ((with_reducible show G 72 _ _ _); exact hG.2 72 _ [(0, vr 93), (1, vr 2), (2, vr 86), (3, vi a3), (4, vi a4), (5, vi _), (6, vi _)] _ _ rfl (ih72 _ _ _ (by assumption) (by assumption) (by refine ⟨by first | omega | (refine ⟨?_, ?_⟩ <;> (first | omega | (simp (disch := omega) only [w32_id, w64_id]; omega) | (simp (disch := omega) only [w32_id, w64_id] at *; omega) | (simp only [w32, w64] at *; omega) | exact (and32_le (by omega) (by omega)).1 | exact (and32_le (by omega) (by omega)).2 | exact (mulR (by omega) (by omega) (by omega) (by omega)).1 | exact (mulR (by omega) (by omega) (by omega) (by omega)).2 | (subst_vars; simp [upZ] at *; omega) | (subst_vars; simp [upZ] at *; simp only [w32, w64] at *; omega))) | (first | omega | (simp (disch := omega) only [w32_id, w64_id]; omega) | (simp (disch := omega) only [w32_id, w64_id] at *; omega) | (simp only [w32, w64] at *; omega) | exact (and32_le (by omega) (by omega)).1 | exact (and32_le (by omega) (by omega)).2 | exact (mulR (by omega) (by omega) (by omega) (by omega)).1 | exact (mulR (by omega) (by omega) (by omega) (by omega)).2 | (subst_vars; simp [upZ] at *; omega) | (subst_vars; simp [upZ] at *; simp only [w32, w64] at *; omega)), by first | omega | (refine ⟨?_, ?_⟩ <;> (first | omega | (simp (disch := omega) only [w32_id, w64_id]; omega) | (simp (disch := omega) only [w32_id, w64_id] at *; omega) | (simp only [w32, w64] at *; omega) | exact (and32_le (by omega) (by omega)).1 | exact (and32_le (by omega) (by omega)).2 | exact (mulR (by omega) (by omega) (by omega) (by omega)).1 | exact (mulR (by omega) (by omega) (by omega) (by omega)).2 | (subst_vars; simp [upZ] at *; omega) | (subst_vars; simp [upZ] at *; simp only [w32, w64] at *; omega))) | (first | omega | (simp (disch := omega) only [w32_id, w64_id]; omega) | (simp (disch := omega) only [w32_id, w64_id] at *; omega) | (simp only [w32, w64] at *; omega) | exact (and32_le (by omega) (by omega)).1 | exact (and32_le (by omega) (by omega)).2 | exact (mulR (by omega) (by omega) (by omega) (by omega)).1 | exact (mulR (by omega) (by omega) (by omega) (by omega)).2 | (subst_vars; simp [upZ] at *; omega) | (subst_vars; simp [upZ] at *; simp only [w32, w64] at *; omega)), by first | omega | (refine ⟨?_, ?_⟩ <;> (first | omega | (simp (disch := omega) only [w32_id, w64_id]; omega) | (simp (disch := omega) only [w32_id, w64_id] at *; omega) | (simp only [w32, w64] at *; omega) | exact (and32_le (by omega) (by omega)).1 | exact (and32_le (by omega) (by omega)).2 | exact (mulR (by omega) (by omega) (by omega) (by omega)).1 | exact (mulR (by omega) (by omega) (by omega) (by omega)).2 | (subst_vars; simp [upZ] at *; omega) | (subst_vars; simp [upZ] at *; simp only [w32, w64] at *; omega))) | (first | omega | (simp (disch := omega) only [w32_id, w64_id]; omega) | (simp (disch := omega) only [w32_id, w64_id] at *; omega) | (simp only [w32, w64] at *; omega) | exact (and32_le (by omega) (by omega)).1 | exact (and32_le (by omega) (by omega)).2 | exact (mulR (by omega) (by omega) (by omega) (by omega)).1 | exact (mulR (by omega) (by omega) (by omega) (by omega)).2 | (subst_vars; simp [upZ] at *; omega) | (subst_vars; simp [upZ] at *; simp only [w32, w64] at *; omega)), trivial⟩) (by first | omega | (simp (disch := omega) only [w32_id, w64_id]; omega) | (simp (disch := omega) only [w32_id, w64_id] at *; omega) | (simp only [w32, w64] at *; omega) | exact (and32_le (by omega) (by omega)).1 | exact (and32_le (by omega) (by omega)).2 | exact (mulR (by omega) (by omega) (by omega) (by omega)).1 | exact (mulR (by omega) (by omega) (by omega) (by omega)).2 | (subst_vars; simp [upZ] at *; omega) | (subst_vars; simp [upZ] at *; simp only [w32, w64] at *; omega))))
          | ((fail_if_success (first | (with_reducible show _ ≤ _) | (with_reducible show _ = _) | (with_reducible show _ ∨ _) | (with_reducible show _ < _) | (with_reducible show G _ _ _ _))); exact Exists.intro _ (Exists.intro _ ⟨rfl, rfl, by assumption, by assumption, by (first | omega | (simp (disch := omega) only [w32_id, w64_id]; omega) | (simp (disch := omega) only [w32_id, w64_id] at *; omega) | (simp only [w32, w64] at *; omega) | exact (and32_le (by omega) (by omega)).1 | exact (and32_le (by omega) (by omega)).2 | exact (mulR (by omega) (by omega) (by omega) (by omega)).1 | exact (mulR (by omega) (by omega) (by omega) (by omega)).2 | (subst_vars; simp [upZ] at *; omega) | (subst_vars; simp [upZ] at *; simp only [w32, w64] at *; omega)), by (first | omega | (simp (disch := omega) only [w32_id, w64_id]; omega) | (simp (disch := omega) only [w32_id, w64_id] at *; omega) | (simp only [w32, w64] at *; omega) | exact (and32_le (by omega) (by omega)).1 | exact (and32_le (by omega) (by omega)).2 | exact (mulR (by omega) (by omega) (by omega) (by omega)).1 | exact (mulR (by omega) (by omega) (by omega) (by omega)).2 | (subst_vars; simp [upZ] at *; omega) | (subst_vars; simp [upZ] at *; simp only [w32, w64] at *; omega))⟩))
          | ((fail_if_success (first | (with_reducible show _ ≤ _) | (with_reducible show _ = _) | (with_reducible show _ ∨ _) | (with_reducible show _ < _) | (with_reducible show G _ _ _ _))); exact Exists.intro _ (Exists.intro _ ⟨rfl, rfl, by assumption, by assumption⟩))
          | ((fail_if_success (first | (with_reducible show _ ≤ _) | (with_reducible show _ = _) | (with_reducible show _ ∨ _) | (with_reducible show _ < _) | (with_reducible show G _ _ _ _))); exact Exists.intro _ ⟨rfl, rfl, by assumption, by assumption⟩)
          | ((fail_if_success (first | (with_reducible show _ ≤ _) | (with_reducible show _ = _) | (with_reducible show _ ∨ _) | (with_reducible show _ < _) | (with_reducible show G _ _ _ _))); exact Or.inl (Exists.intro _ ⟨rfl, rfl, by assumption, by assumption⟩))
          | ((fail_if_success (first | (with_reducible show _ ≤ _) | (with_reducible show _ = _) | (with_reducible show _ ∨ _) | (with_reducible show _ < _) | (with_reducible show G _ _ _ _))); exact Or.inr (Exists.intro _ ⟨rfl, rfl, by assumption, by assumption⟩))
          | omega
          | rfl
          | exact trivial
          | decide
          | (show (0 : Int) < _; omega)
          | (show (0 : Int) < _; simp only [w64] at *; omega)
          | (simp only [w32, w64] at *; omega)
          | (first | omega | (simp (disch := omega) only [w32_id, w64_id]; omega) | (simp (disch := omega) only [w32_id, w64_id] at *; omega) | (simp only [w32, w64] at *; omega) | exact (and32_le (by omega) (by omega)).1 | exact (and32_le (by omega) (by omega)).2 | exact (mulR (by omega) (by omega) (by omega) (by omega)).1 | exact (mulR (by omega) (by omega) (by omega) (by omega)).2 | (subst_vars; simp [upZ] at *; omega) | (subst_vars; simp [upZ] at *; simp only [w32, w64] at *; omega))
          | skip
      · intro Z1 v5 v6 hI1 hk1 hv hm
        obtain ⟨w0, w1, w2, -⟩ := hv
        clear hk hI
        refine wq_run hG n R0 [41, 72] 900 _ _ _ _ ?_
        repeat' (first
            | with_reducible rfl
            | refine And.intro ?_ ?_
            | with_reducible exact True.intro
            | ((with_reducible show _ = true); rfl)
            | ((with_reducible show recvG _ _); rfl)
            | ((with_reducible show CI _); first | with_reducible assumption | assumption)
            | (fail_if_success (first | (with_reducible show _ ≤ _) | (with_reducible show _ = _) | (with_reducible show _ ∨ _) | (with_reducible show _ < _) | (with_reducible show G _ _ _ _))
               first
               | show G _ _ _ _
               | (intro (Z2 : ZT) hZ2; have hZ3 : Z' = Z2 := hZ2.symm; subst hZ3)
               | (intro (Z2 : ZT) hZ2; have hZ3 : Z1 = Z2 := hZ2.symm; subst hZ3)
               | (intro (Z2 : ZT) hZ2; have hZ3 : Z = Z2 := hZ2.symm; subst hZ3)
               | (refine ld_bnd (by first | with_reducible assumption | assumption) rfl ?_; intro _ _ _ _)
               | (refine st_bnd (by first | with_reducible assumption | assumption) (by first | with_reducible assumption | assumption) (by decide) (fun lo hi hb => by first | (cases hb; done) | (cases hb; constructor <;> (first | omega | (simp (disch := omega) only [w32_id, w64_id]; omega) | (simp (disch := omega) only [w32_id, w64_id] at *; omega) | (simp only [w32, w64] at *; omega) | exact (and32_le (by omega) (by omega)).1 | exact (and32_le (by omega) (by omega)).2 | exact (mulR (by omega) (by omega) (by omega) (by omega)).1 | exact (mulR (by omega) (by omega) (by omega) (by omega)).2 | (subst_vars; simp [upZ] at *; omega) | (subst_vars; simp [upZ] at *; simp only [w32, w64] at *; omega)))) ?_; intro Z' _ _ _)
               | (intro (r : Option PV) σ' hq
                  first
                  | (obtain ⟨rfl, rfl⟩ := hq)
                  | (obtain ⟨Z', x, rfl, rfl, hI2, hk2, hl2, hu2⟩ := hq; have hk3 := keeps_to (by first | with_reducible assumption | assumption) (by rfl) hk2; clear hk2)
                  | (obtain ⟨Z', x, rfl, rfl, hI2, hk2⟩ := hq; have hk3 := keeps_to (by first | with_reducible assumption | assumption) (by rfl) hk2; clear hk2)
                  | (rcases hq with ⟨Z', rfl, rfl, hI2, hk2⟩ | ⟨Z', rfl, rfl, hI2, hk2⟩ <;> (have hk3 := keeps_to (by first | with_reducible assumption | assumption) (by rfl) hk2; clear hk2))
                  | (obtain ⟨Z', rfl, rfl, hI2, hk2⟩ := hq; have hk3 := keeps_to (by first | with_reducible assumption | assumption) (by rfl) hk2; clear hk2))
               | (intro hc; (try simp only [cmp3_c] at hc); simp only [cmpI] at hc)
               | (show CI _; assumption)
               | intro (_ : Int)
               | intro (Z' : ZT)
               | intro (_ : CI _)
               | intro (_ : keeps _ _ _)
               | intro (_ : _ ≤ _)
               | intro (_ : _ = _)
               | intro (_ : _ < _)
               | intro (_ : _ ∨ _)))
        all_goals first
          | with_reducible rfl
          | ((with_reducible show _ = _); rfl)
          | ((with_reducible show recvG _ _); rfl)
          | with_reducible exact trivial
          | ((fail_if_success (first | (with_reducible show _ ≤ _) | (with_reducible show _ = _) | (with_reducible show _ ∨ _) | (with_reducible show _ < _) | (with_reducible show G _ _ _ _))); (refine Exists.intro _ (And.intro rfl (And.intro rfl (And.intro ?_ ?_)))) <;> with_reducible assumption)
          | ((with_reducible show G 41 _ _ _); exact hG.2 41 _ [(0, vr 93), (1, vr 2), (2, vr 86), (3, vi a3), (4, vi a4), (5, vi _), (6, vi _)] _ _ rfl (ih41 _ _ _ (by assumption) (by assumption) (by refine ⟨by first | omega | (refine ⟨?_, ?_⟩ <;> (first | omega | (simp (disch := omega) only [w32_id, w64_id]; omega) | (simp (disch := omega) only [w32_id, w64_id] at *; omega) | (simp only [w32, w64] at *; omega) | exact (and32_le (by omega) (by omega)).1 | exact (and32_le (by omega) (by omega)).2 | exact (mulR (by omega) (by omega) (by omega) (by omega)).1 | exact (mulR (by omega) (by omega) (by omega) (by omega)).2 | (subst_vars; simp [upZ] at *; omega) | (subst_vars; simp [upZ] at *; simp only [w32, w64] at *; omega))) | (first | omega | (simp (disch := omega) only [w32_id, w64_id]; omega) | (simp (disch := omega) only [w32_id, w64_id] at *; omega) | (simp only [w32, w64] at *; omega) | exact (and32_le (by omega) (by omega)).1 | exact (and32_le (by omega) (by omega)).2 | exact (mulR (by omega) (by omega) (by omega) (by omega)).1 | exact (mulR (by omega) (by omega) (by omega) (by omega)).2 | (subst_vars; simp [upZ] at *; omega) | (subst_vars; simp [upZ] at *; simp only [w32, w64] at *; omega)), by first | omega | (refine ⟨?_, ?_⟩ <;> (first | omega | (simp (disch := omega) only [w32_id, w64_id]; omega) | (simp (disch := omega) only [w32_id, w64_id] at *; omega) | (simp only [w32, w64] at *; omega) | exact (and32_le (by omega) (by omega)).1 | exact (and32_le (by omega) (by omega)).2 | exact (mulR (by omega) (by omega) (by omega) (by omega)).1 | exact (mulR (by omega) (by omega) (by omega) (by omega)).2 | (subst_vars; simp [upZ] at *; omega) | (subst_vars; simp [upZ] at *; simp only [w32, w64] at *; omega))) | (first | omega | (simp (disch := omega) only [w32_id, w64_id]; omega) | (simp (disch := omega) only [w32_id, w64_id] at *; omega) | (simp only [w32, w64] at *; omega) | exact (and32_le (by omega) (by omega)).1 | exact (and32_le (by omega) (by omega)).2 | exact (mulR (by omega) (by omega) (by omega) (by omega)).1 | exact (mulR (by omega) (by omega) (by omega) (by omega)).2 | (subst_vars; simp [upZ] at *; omega) | (subst_vars; simp [upZ] at *; simp only [w32, w64] at *; omega)), trivial⟩) (by first | omega | (simp (disch := omega) only [w32_id, w64_id]; omega) | (simp (disch := omega) only [w32_id, w64_id] at *; omega) | (simp only [w32, w64] at *; omega) | exact (and32_le (by omega) (by omega)).1 | exact (and32_le (by omega) (by omega)).2 | exact (mulR (by omega) (by omega) (by omega) (by omega)).1 | exact (mulR (by omega) (by omega) (by omega) (by omega)).2 | (subst_vars; simp [upZ] at *; omega) | (subst_vars; simp [upZ] at *; simp only [w32, w64] at *; omega))))
          | ((with_reducible show G 72 _ _ _); exact hG.2 72 _ [(0, vr 93), (1, vr 2), (2, vr 86), (3, vi a3), (4, vi a4), (5, vi _), (6, vi _)] _ _ rfl (ih72 _ _ _ (by assumption) (by assumption) (by refine ⟨by first | omega | (refine ⟨?_, ?_⟩ <;> (first | omega | (simp (disch := omega) only [w32_id, w64_id]; omega) | (simp (disch := omega) only [w32_id, w64_id] at *; omega) | (simp only [w32, w64] at *; omega) | exact (and32_le (by omega) (by omega)).1 | exact (and32_le (by omega) (by omega)).2 | exact (mulR (by omega) (by omega) (by omega) (by omega)).1 | exact (mulR (by omega) (by omega) (by omega) (by omega)).2 | (subst_vars; simp [upZ] at *; omega) | (subst_vars; simp [upZ] at *; simp only [w32, w64] at *; omega))) | (first | omega | (simp (disch := omega) only [w32_id, w64_id]; omega) | (simp (disch := omega) only [w32_id, w64_id] at *; omega) | (simp only [w32, w64] at *; omega) | exact (and32_le (by omega) (by omega)).1 | exact (and32_le (by omega) (by omega)).2 | exact (mulR (by omega) (by omega) (by omega) (by omega)).1 | exact (mulR (by omega) (by omega) (by omega) (by omega)).2 | (subst_vars; simp [upZ] at *; omega) | (subst_vars; simp [upZ] at *; simp only [w32, w64] at *; omega)), by first | omega | (refine ⟨?_, ?_⟩ <;> (first | omega | (simp (disch := omega) only [w32_id, w64_id]; omega) | (simp (disch := omega) only [w32_id, w64_id] at *; omega) | (simp only [w32, w64] at *; omega) | exact (and32_le (by omega) (by omega)).1 | exact (and32_le (by omega) (by omega)).2 | exact (mulR (by omega) (by omega) (by omega) (by omega)).1 | exact (mulR (by omega) (by omega) (by omega) (by omega)).2 | (subst_vars; simp [upZ] at *; omega) | (subst_vars; simp [upZ] at *; simp only [w32, w64] at *; omega))) | (first | omega | (simp (disch := omega) only [w32_id, w64_id]; omega) | (simp (disch := omega) only [w32_id, w64_id] at *; omega) | (simp only [w32, w64] at *; omega) | exact (and32_le (by omega) (by omega)).1 | exact (and32_le (by omega) (by omega)).2 | exact (mulR (by omega) (by omega) (by omega) (by omega)).1 | exact (mulR (by omega) (by omega) (by omega) (by omega)).2 | (subst_vars; simp [upZ] at *; omega) | (subst_vars; simp [upZ] at *; simp only [w32, w64] at *; omega)), by first | omega | (refine ⟨?_, ?_⟩ <;> (first | omega | (simp (disch := omega) only [w32_id, w64_id]; omega) | (simp (disch := omega) only [w32_id, w64_id] at *; omega) | (simp only [w32, w64] at *; omega) | exact (and32_le (by omega) (by omega)).1 | exact (and32_le (by omega) (by omega)).2 | exact (mulR (by omega) (by omega) (by omega) (by omega)).1 | exact (mulR (by omega) (by omega) (by omega) (by omega)).2 | (subst_vars; simp [upZ] at *; omega) | (subst_vars; simp [upZ] at *; simp only [w32, w64] at *; omega))) | (first | omega | (simp (disch := omega) only [w32_id, w64_id]; omega) | (simp (disch := omega) only [w32_id, w64_id] at *; omega) | (simp only [w32, w64] at *; omega) | exact (and32_le (by omega) (by omega)).1 | exact (and32_le (by omega) (by omega)).2 | exact (mulR (by omega) (by omega) (by omega) (by omega)).1 | exact (mulR (by omega) (by omega) (by omega) (by omega)).2 | (subst_vars; simp [upZ] at *; omega) | (subst_vars; simp [upZ] at *; simp only [w32, w64] at *; omega)), trivial⟩) (by first | omega | (simp (disch := omega) only [w32_id, w64_id]; omega) | (simp (disch := omega) only [w32_id, w64_id] at *; omega) | (simp only [w32, w64] at *; omega) | exact (and32_le (by omega) (by omega)).1 | exact (and32_le (by omega) (by omega)).2 | exact (mulR (by omega) (by omega) (by omega) (by omega)).1 | exact (mulR (by omega) (by omega) (by omega) (by omega)).2 | (subst_vars; simp [upZ] at *; omega) | (subst_vars; simp [upZ] at *; simp only [w32, w64] at *; omega))))
          | ((fail_if_success (first | (with_reducible show _ ≤ _) | (with_reducible show _ = _) | (with_reducible show _ ∨ _) | (with_reducible show _ < _) | (with_reducible show G _ _ _ _))); exact Exists.intro _ (Exists.intro _ ⟨rfl, rfl, by assumption, by assumption, by (first | omega | (simp (disch := omega) only [w32_id, w64_id]; omega) | (simp (disch := omega) only [w32_id, w64_id] at *; omega) | (simp only [w32, w64] at *; omega) | exact (and32_le (by omega) (by omega)).1 | exact (and32_le (by omega) (by omega)).2 | exact (mulR (by omega) (by omega) (by omega) (by omega)).1 | exact (mulR (by omega) (by omega) (by omega) (by omega)).2 | (subst_vars; simp [upZ] at *; omega) | (subst_vars; simp [upZ] at *; simp only [w32, w64] at *; omega)), by (first | omega | (simp (disch := omega) only [w32_id, w64_id]; omega) | (simp (disch := omega) only [w32_id, w64_id] at *; omega) | (simp only [w32, w64] at *; omega) | exact (and32_le (by omega) (by omega)).1 | exact (and32_le (by omega) (by omega)).2 | exact (mulR (by omega) (by omega) (by omega) (by omega)).1 | exact (mulR (by omega) (by omega) (by omega) (by omega)).2 | (subst_vars; simp [upZ] at *; omega) | (subst_vars; simp [upZ] at *; simp only [w32, w64] at *; omega))⟩))
          | ((fail_if_success (first | (with_reducible show _ ≤ _) | (with_reducible show _ = _) | (with_reducible show _ ∨ _) | (with_reducible show _ < _) | (with_reducible show G _ _ _ _))); exact Exists.intro _ (Exists.intro _ ⟨rfl, rfl, by assumption, by assumption⟩))
          | ((fail_if_success (first | (with_reducible show _ ≤ _) | (with_reducible show _ = _) | (with_reducible show _ ∨ _) | (with_reducible show _ < _) | (with_reducible show G _ _ _ _))); exact Exists.intro _ ⟨rfl, rfl, by assumption, by assumption⟩)
          | ((fail_if_success (first | (with_reducible show _ ≤ _) | (with_reducible show _ = _) | (with_reducible show _ ∨ _) | (with_reducible show _ < _) | (with_reducible show G _ _ _ _))); exact Or.inl (Exists.intro _ ⟨rfl, rfl, by assumption, by assumption⟩))
          | ((fail_if_success (first | (with_reducible show _ ≤ _) | (with_reducible show _ = _) | (with_reducible show _ ∨ _) | (with_reducible show _ < _) | (with_reducible show G _ _ _ _))); exact Or.inr (Exists.intro _ ⟨rfl, rfl, by assumption, by assumption⟩))
          | omega
          | rfl
          | exact trivial
          | decide
          | (show (0 : Int) < _; omega)
          | (show (0 : Int) < _; simp only [w64] at *; omega)
          | (simp only [w32, w64] at *; omega)
          | (first | omega | (simp (disch := omega) only [w32_id, w64_id]; omega) | (simp (disch := omega) only [w32_id, w64_id] at *; omega) | (simp only [w32, w64] at *; omega) | exact (and32_le (by omega) (by omega)).1 | exact (and32_le (by omega) (by omega)).2 | exact (mulR (by omega) (by omega) (by omega) (by omega)).1 | exact (mulR (by omega) (by omega) (by omega) (by omega)).2 | (subst_vars; simp [upZ] at *; omega) | (subst_vars; simp [upZ] at *; simp only [w32, w64] at *; omega))
          | skip
  refine wq_run hG n R0 [41, 72] 900 _ _ _ _ ?_
  repeat' (first
      | with_reducible rfl
      | refine And.intro ?_ ?_
      | with_reducible exact True.intro
      | ((with_reducible show _ = true); rfl)
      | ((with_reducible show recvG _ _); rfl)
      | ((with_reducible show CI _); first | with_reducible assumption | assumption)
      | (fail_if_success (first | (with_reducible show _ ≤ _) | (with_reducible show _ = _) | (with_reducible show _ ∨ _) | (with_reducible show _ < _) | (with_reducible show G _ _ _ _))
         first
         | show G _ _ _ _
         | (intro (Z2 : ZT) hZ2; have hZ3 : Z' = Z2 := hZ2.symm; subst hZ3)
         | (intro (Z2 : ZT) hZ2; have hZ3 : Z1 = Z2 := hZ2.symm; subst hZ3)
         | (intro (Z2 : ZT) hZ2; have hZ3 : Z = Z2 := hZ2.symm; subst hZ3)
         | (refine ld_bnd (by first | with_reducible assumption | assumption) rfl ?_; intro _ _ _ _)
         | (refine st_bnd (by first | with_reducible assumption | assumption) (by first | with_reducible assumption | assumption) (by decide) (fun lo hi hb => by first | (cases hb; done) | (cases hb; constructor <;> (first | omega | (simp (disch := omega) only [w32_id, w64_id]; omega) | (simp (disch := omega) only [w32_id, w64_id] at *; omega) | (simp only [w32, w64] at *; omega) | exact (and32_le (by omega) (by omega)).1 | exact (and32_le (by omega) (by omega)).2 | exact (mulR (by omega) (by omega) (by omega) (by omega)).1 | exact (mulR (by omega) (by omega) (by omega) (by omega)).2 | (subst_vars; simp [upZ] at *; omega) | (subst_vars; simp [upZ] at *; simp only [w32, w64] at *; omega)))) ?_; intro Z' _ _ _)
         | (intro (r : Option PV) σ' hq
            first
            | (obtain ⟨rfl, rfl⟩ := hq)
            | (obtain ⟨Z', x, rfl, rfl, hI2, hk2, hl2, hu2⟩ := hq; have hk3 := keeps_to (by first | with_reducible assumption | assumption) (by rfl) hk2; clear hk2)
            | (obtain ⟨Z', x, rfl, rfl, hI2, hk2⟩ := hq; have hk3 := keeps_to (by first | with_reducible assumption | assumption) (by rfl) hk2; clear hk2)
            | (rcases hq with ⟨Z', rfl, rfl, hI2, hk2⟩ | ⟨Z', rfl, rfl, hI2, hk2⟩ <;> (have hk3 := keeps_to (by first | with_reducible assumption | assumption) (by rfl) hk2; clear hk2))
            | (obtain ⟨Z', rfl, rfl, hI2, hk2⟩ := hq; have hk3 := keeps_to (by first | with_reducible assumption | assumption) (by rfl) hk2; clear hk2))
         | (intro hc; (try simp only [cmp3_c] at hc); simp only [cmpI] at hc)
         | (show CI _; assumption)
         | intro (_ : Int)
         | intro (Z' : ZT)
         | intro (_ : CI _)
         | intro (_ : keeps _ _ _)
         | intro (_ : _ ≤ _)
         | intro (_ : _ = _)
         | intro (_ : _ < _)
         | intro (_ : _ ∨ _)))
  all_goals (try obtain ⟨lp41, lp72⟩ := loop 10000000000)
  all_goals first
    | with_reducible rfl
    | ((with_reducible show _ = _); rfl)
    | ((with_reducible show recvG _ _); rfl)
    | with_reducible exact trivial
    | ((fail_if_success (first | (with_reducible show _ ≤ _) | (with_reducible show _ = _) | (with_reducible show _ ∨ _) | (with_reducible show _ < _) | (with_reducible show G _ _ _ _))); (refine Exists.intro _ (And.intro rfl (And.intro rfl (And.intro ?_ ?_)))) <;> with_reducible assumption)
    | ((with_reducible show G 41 _ _ _); exact hG.2 41 _ [(0, vr 93), (1, vr 2), (2, vr 86), (3, vi a3), (4, vi a4), (5, vi _), (6, vi _)] _ _ rfl (lp41 _ _ _ (by assumption) (by assumption) (by refine ⟨by first | omega | (refine ⟨?_, ?_⟩ <;> (first | omega | (simp (disch := omega) only [w32_id, w64_id]; omega) | (simp (disch := omega) only [w32_id, w64_id] at *; omega) | (simp only [w32, w64] at *; omega) | exact (and32_le (by omega) (by omega)).1 | exact (and32_le (by omega) (by omega)).2 | exact (mulR (by omega) (by omega) (by omega) (by omega)).1 | exact (mulR (by omega) (by omega) (by omega) (by omega)).2 | (subst_vars; simp [upZ] at *; omega) | (subst_vars; simp [upZ] at *; simp only [w32, w64] at *; omega))) | (first | omega | (simp (disch := omega) only [w32_id, w64_id]; omega) | (simp (disch := omega) only [w32_id, w64_id] at *; omega) | (simp only [w32, w64] at *; omega) | exact (and32_le (by omega) (by omega)).1 | exact (and32_le (by omega) (by omega)).2 | exact (mulR (by omega) (by omega) (by omega) (by omega)).1 | exact (mulR (by omega) (by omega) (by omega) (by omega)).2 | (subst_vars; simp [upZ] at *; omega) | (subst_vars; simp [upZ] at *; simp only [w32, w64] at *; omega)), by first | omega | (refine ⟨?_, ?_⟩ <;> (first | omega | (simp (disch := omega) only [w32_id, w64_id]; omega) | (simp (disch := omega) only [w32_id, w64_id] at *; omega) | (simp only [w32, w64] at *; omega) | exact (and32_le (by omega) (by omega)).1 | exact (and32_le (by omega) (by omega)).2 | exact (mulR (by omega) (by omega) (by omega) (by omega)).1 | exact (mulR (by omega) (by omega) (by omega) (by omega)).2 | (subst_vars; simp [upZ] at *; omega) | (subst_vars; simp [upZ] at *; simp only [w32, w64] at *; omega))) | (first | omega | (simp (disch := omega) only [w32_id, w64_id]; omega) | (simp (disch := omega) only [w32_id, w64_id] at *; omega) | (simp only [w32, w64] at *; omega) | exact (and32_le (by omega) (by omega)).1 | exact (and32_le (by omega) (by omega)).2 | exact (mulR (by omega) (by omega) (by omega) (by omega)).1 | exact (mulR (by omega) (by omega) (by omega) (by omega)).2 | (subst_vars; simp [upZ] at *; omega) | (subst_vars; simp [upZ] at *; simp only [w32, w64] at *; omega)), trivial⟩) (by first | omega | (simp (disch := omega) only [w32_id, w64_id]; omega) | (simp (disch := omega) only [w32_id, w64_id] at *; omega) | (simp only [w32, w64] at *; omega) | exact (and32_le (by omega) (by omega)).1 | exact (and32_le (by omega) (by omega)).2 | exact (mulR (by omega) (by omega) (by omega) (by omega)).1 | exact (mulR (by omega) (by omega) (by omega) (by omega)).2 | (subst_vars; simp [upZ] at *; omega) | (subst_vars; simp [upZ] at *; simp only [w32, w64] at *; omega))))
    | ((with_reducible show G 72 _ _ _); exact hG.2 72 _ [(0, vr 93), (1, vr 2), (2, vr 86), (3, vi a3), (4, vi a4), (5, vi _), (6, vi _)] _ _ rfl (lp72 _ _ _ (by assumption) (by assumption) (by refine ⟨by first | omega | (refine ⟨?_, ?_⟩ <;> (first | omega | (simp (disch := omega) only [w32_id, w64_id]; omega) | (simp (disch := omega) only [w32_id, w64_id] at *; omega) | (simp only [w32, w64] at *; omega) | exact (and32_le (by omega) (by omega)).1 | exact (and32_le (by omega) (by omega)).2 | exact (mulR (by omega) (by omega) (by omega) (by omega)).1 | exact (mulR (by omega) (by omega) (by omega) (by omega)).2 | (subst_vars; simp [upZ] at *; omega) | (subst_vars; simp [upZ] at *; simp only [w32, w64] at *; omega))) | (first | omega | (simp (disch := omega) only [w32_id, w64_id]; omega) | (simp (disch := omega) only [w32_id, w64_id] at *; omega) | (simp only [w32, w64] at *; omega) | exact (and32_le (by omega) (by omega)).1 | exact (and32_le (by omega) (by omega)).2 | exact (mulR (by omega) (by omega) (by omega) (by omega)).1 | exact (mulR (by omega) (by omega) (by omega) (by omega)).2 | (subst_vars; simp [upZ] at *; omega) | (subst_vars; simp [upZ] at *; simp only [w32, w64] at *; omega)), by first | omega | (refine ⟨?_, ?_⟩ <;> (first | omega | (simp (disch := omega) only [w32_id, w64_id]; omega) | (simp (disch := omega) only [w32_id, w64_id] at *; omega) | (simp only [w32, w64] at *; omega) | exact (and32_le (by omega) (by omega)).1 | exact (and32_le (by omega) (by omega)).2 | exact (mulR (by omega) (by omega) (by omega) (by omega)).1 | exact (mulR (by omega) (by omega) (by omega) (by omega)).2 | (subst_vars; simp [upZ] at *; omega) | (subst_vars; simp [upZ] at *; simp only [w32, w64] at *; omega))) | (first | omega | (simp (disch := omega) only [w32_id, w64_id]; omega) | (simp (disch := omega) only [w32_id, w64_id] at *; omega) | (simp only [w32, w64] at *; omega) | exact (and32_le (by omega) (by omega)).1 | exact (and32_le (by omega) (by omega)).2 | exact (mulR (by omega) (by omega) (by omega) (by omega)).1 | exact (mulR (by omega) (by omega) (by omega) (by omega)).2 | (subst_vars; simp [upZ] at *; omega) | (subst_vars; simp [upZ] at *; simp only [w32, w64] at *; omega)), by first | omega | (refine ⟨?_, ?_⟩ <;> (first | omega | (simp (disch := omega) only [w32_id, w64_id]; omega) | (simp (disch := omega) only [w32_id, w64_id] at *; omega) | (simp only [w32, w64] at *; omega) | exact (and32_le (by omega) (by omega)).1 | exact (and32_le (by omega) (by omega)).2 | exact (mulR (by omega) (by omega) (by omega) (by omega)).1 | exact (mulR (by omega) (by omega) (by omega) (by omega)).2 | (subst_vars; simp [upZ] at *; omega) | (subst_vars; simp [upZ] at *; simp only [w32, w64] at *; omega))) | (first | omega | (simp (disch := omega) only [w32_id, w64_id]; omega) | (simp (disch := omega) only [w32_id, w64_id] at *; omega) | (simp only [w32, w64] at *; omega) | exact (and32_le (by omega) (by omega)).1 | exact (and32_le (by omega) (by omega)).2 | exact (mulR (by omega) (by omega) (by omega) (by omega)).1 | exact (mulR (by omega) (by omega) (by omega) (by omega)).2 | (subst_vars; simp [upZ] at *; omega) | (subst_vars; simp [upZ] at *; simp only [w32, w64] at *; omega)), trivial⟩) (by first | omega | (simp (disch := omega) only [w32_id, w64_id]; omega) | (simp (disch := omega) only [w32_id, w64_id] at *; omega) | (simp only [w32, w64] at *; omega) | exact (and32_le (by omega) (by omega)).1 | exact (and32_le (by omega) (by omega)).2 | exact (mulR (by omega) (by omega) (by omega) (by omega)).1 | exact (mulR (by omega) (by omega) (by omega) (by omega)).2 | (subst_vars; simp [upZ] at *; omega) | (subst_vars; simp [upZ] at *; simp only [w32, w64] at *; omega))))
    | ((fail_if_success (first | (with_reducible show _ ≤ _) | (with_reducible show _ = _) | (with_reducible show _ ∨ _) | (with_reducible show _ < _) | (with_reducible show G _ _ _ _))); exact Exists.intro _ (Exists.intro _ ⟨rfl, rfl, by assumption, by assumption, by (first | omega | (simp (disch := omega) only [w32_id, w64_id]; omega) | (simp (disch := omega) only [w32_id, w64_id] at *; omega) | (simp only [w32, w64] at *; omega) | exact (and32_le (by omega) (by omega)).1 | exact (and32_le (by omega) (by omega)).2 | exact (mulR (by omega) (by omega) (by omega) (by omega)).1 | exact (mulR (by omega) (by omega) (by omega) (by omega)).2 | (subst_vars; simp [upZ] at *; omega) | (subst_vars; simp [upZ] at *; simp only [w32, w64] at *; omega)), by (first | omega | (simp (disch := omega) only [w32_id, w64_id]; omega) | (simp (disch := omega) only [w32_id, w64_id] at *; omega) | (simp only [w32, w64] at *; omega) | exact (and32_le (by omega) (by omega)).1 | exact (and32_le (by omega) (by omega)).2 | exact (mulR (by omega) (by omega) (by omega) (by omega)).1 | exact (mulR (by omega) (by omega) (by omega) (by omega)).2 | (subst_vars; simp [upZ] at *; omega) | (subst_vars; simp [upZ] at *; simp only [w32, w64] at *; omega))⟩))
    | ((fail_if_success (first | (with_reducible show _ ≤ _) | (with_reducible show _ = _) | (with_reducible show _ ∨ _) | (with_reducible show _ < _) | (with_reducible show G _ _ _ _))); exact Exists.intro _ (Exists.intro _ ⟨rfl, rfl, by assumption, by assumption⟩))
    | ((fail_if_success (first | (with_reducible show _ ≤ _) | (with_reducible show _ = _) | (with_reducible show _ ∨ _) | (with_reducible show _ < _) | (with_reducible show G _ _ _ _))); exact Exists.intro _ ⟨rfl, rfl, by assumption, by assumption⟩)
    | ((fail_if_success (first | (with_reducible show _ ≤ _) | (with_reducible show _ = _) | (with_reducible show _ ∨ _) | (with_reducible show _ < _) | (with_reducible show G _ _ _ _))); exact Or.inl (Exists.intro _ ⟨rfl, rfl, by assumption, by assumption⟩))
    | ((fail_if_success (first | (with_reducible show _ ≤ _) | (with_reducible show _ = _) | (with_reducible show _ ∨ _) | (with_reducible show _ < _) | (with_reducible show G _ _ _ _))); exact Or.inr (Exists.intro _ ⟨rfl, rfl, by assumption, by assumption⟩))
    | omega
    | rfl
    | exact trivial
    | decide
    | (show (0 : Int) < _; omega)
    | (show (0 : Int) < _; simp only [w64] at *; omega)
    | (simp only [w32, w64] at *; omega)
    | (first | omega | (simp (disch := omega) only [w32_id, w64_id]; omega) | (simp (disch := omega) only [w32_id, w64_id] at *; omega) | (simp only [w32, w64] at *; omega) | exact (and32_le (by omega) (by omega)).1 | exact (and32_le (by omega) (by omega)).2 | exact (mulR (by omega) (by omega) (by omega) (by omega)).1 | exact (mulR (by omega) (by omega) (by omega) (by omega)).2 | (subst_vars; simp [upZ] at *; omega) | (subst_vars; simp [upZ] at *; simp only [w32, w64] at *; omega))
    | skip
def s_X1_clearTold : Sp := wspV 1 1 (fun as Z => match as with
    | [.inr (.inr a0)] => ((a0 = 80)) ∧ True
    | _ => False) (fun as => match as with
    | [.inr (.inr a0)] => [81, 82]
    | _ => [])
set_option maxRecDepth 100000 in
set_option maxHeartbeats 40000000 in
theorem c_X1_clearTold {l : Launch} {D : va_G} {cA : Nat → ClassId} : PM l D cA yX1_clearTold cX1_clearTold 2 none 0 0 s_X1_clearTold := by
  refine of_X1_clearTold  (fun as σ hwf hao hpre => ?_)
  obtain ⟨n, Z, R⟩ := σ
  obtain ⟨hR, hI, hpre⟩ := hpre
  obtain rfl : R = R0 := hR
  rcases as with _ | ⟨x | x | a0, _ | ⟨v, t⟩⟩ <;> first | exact (hpre : False).elim | skip
  obtain ⟨h0, -⟩ := hpre
  have hk : keeps ([81, 82]) Z Z := keeps_refl
  refine ⟨Nat.le_of_ble_eq_true rfl, fun G hG => ?_⟩
  clear hao hwf
  obtain rfl := h0
  have loop : ∀ fuel : Nat, (∀ (Z1 : ZT) (v1 : Int), CI Z1 → keeps ([81, 82]) Z Z1 → ((0 ≤ v1 ∧ v1 ≤ 6) ∧ True) → 7 - v1 ≤ (fuel : Int) → G 2 [(0, vr 80), (1, vi v1)] [] (n, Z1, R0)) := by
    intro fuel
    induction fuel with
    | zero => exact (by intros; omega)
    | succ fuel ih =>
      have ih2 := ih
      · intro Z1 v1 hI1 hk1 hv hm
        obtain ⟨w0, -⟩ := hv
        clear hk hI
        refine wq_run hG n R0 [2] 900 _ _ _ _ ?_
        repeat' (first
            | with_reducible rfl
            | refine And.intro ?_ ?_
            | with_reducible exact True.intro
            | ((with_reducible show _ = true); rfl)
            | ((with_reducible show recvG _ _); rfl)
            | ((with_reducible show CI _); first | with_reducible assumption | assumption)
            | (fail_if_success (first | (with_reducible show _ ≤ _) | (with_reducible show _ = _) | (with_reducible show _ ∨ _) | (with_reducible show _ < _) | (with_reducible show G _ _ _ _))
               first
               | show G _ _ _ _
               | (intro (Z2 : ZT) hZ2; have hZ3 : Z' = Z2 := hZ2.symm; subst hZ3)
               | (intro (Z2 : ZT) hZ2; have hZ3 : Z1 = Z2 := hZ2.symm; subst hZ3)
               | (intro (Z2 : ZT) hZ2; have hZ3 : Z = Z2 := hZ2.symm; subst hZ3)
               | (refine ld_bnd (by first | with_reducible assumption | assumption) rfl ?_; intro _ _ _ _)
               | (refine st_bnd (by first | with_reducible assumption | assumption) (by first | with_reducible assumption | assumption) (by decide) (fun lo hi hb => by first | (cases hb; done) | (cases hb; constructor <;> (first | omega | (simp (disch := omega) only [w32_id, w64_id]; omega) | (simp (disch := omega) only [w32_id, w64_id] at *; omega) | (simp only [w32, w64] at *; omega) | exact (and32_le (by omega) (by omega)).1 | exact (and32_le (by omega) (by omega)).2 | exact (mulR (by omega) (by omega) (by omega) (by omega)).1 | exact (mulR (by omega) (by omega) (by omega) (by omega)).2 | (subst_vars; simp [upZ] at *; omega) | (subst_vars; simp [upZ] at *; simp only [w32, w64] at *; omega)))) ?_; intro Z' _ _ _)
               | (intro (r : Option PV) σ' hq
                  first
                  | (obtain ⟨rfl, rfl⟩ := hq)
                  | (obtain ⟨Z', x, rfl, rfl, hI2, hk2, hl2, hu2⟩ := hq; have hk3 := keeps_to (by first | with_reducible assumption | assumption) (by rfl) hk2; clear hk2)
                  | (obtain ⟨Z', x, rfl, rfl, hI2, hk2⟩ := hq; have hk3 := keeps_to (by first | with_reducible assumption | assumption) (by rfl) hk2; clear hk2)
                  | (rcases hq with ⟨Z', rfl, rfl, hI2, hk2⟩ | ⟨Z', rfl, rfl, hI2, hk2⟩ <;> (have hk3 := keeps_to (by first | with_reducible assumption | assumption) (by rfl) hk2; clear hk2))
                  | (obtain ⟨Z', rfl, rfl, hI2, hk2⟩ := hq; have hk3 := keeps_to (by first | with_reducible assumption | assumption) (by rfl) hk2; clear hk2))
               | (intro hc; (try simp only [cmp3_c] at hc); simp only [cmpI] at hc)
               | (show CI _; assumption)
               | intro (_ : Int)
               | intro (Z' : ZT)
               | intro (_ : CI _)
               | intro (_ : keeps _ _ _)
               | intro (_ : _ ≤ _)
               | intro (_ : _ = _)
               | intro (_ : _ < _)
               | intro (_ : _ ∨ _)))
        all_goals first
          | with_reducible rfl
          | ((with_reducible show _ = _); rfl)
          | ((with_reducible show recvG _ _); rfl)
          | with_reducible exact trivial
          | ((fail_if_success (first | (with_reducible show _ ≤ _) | (with_reducible show _ = _) | (with_reducible show _ ∨ _) | (with_reducible show _ < _) | (with_reducible show G _ _ _ _))); (refine Exists.intro _ (And.intro rfl (And.intro rfl (And.intro ?_ ?_)))) <;> with_reducible assumption)
          | ((with_reducible show G 2 _ _ _); exact hG.2 2 _ [(0, vr 80), (1, vi _)] _ _ rfl (ih2 _ _ (by assumption) (by assumption) (by refine ⟨by first | omega | (refine ⟨?_, ?_⟩ <;> (first | omega | (simp (disch := omega) only [w32_id, w64_id]; omega) | (simp (disch := omega) only [w32_id, w64_id] at *; omega) | (simp only [w32, w64] at *; omega) | exact (and32_le (by omega) (by omega)).1 | exact (and32_le (by omega) (by omega)).2 | exact (mulR (by omega) (by omega) (by omega) (by omega)).1 | exact (mulR (by omega) (by omega) (by omega) (by omega)).2 | (subst_vars; simp [upZ] at *; omega) | (subst_vars; simp [upZ] at *; simp only [w32, w64] at *; omega))) | (first | omega | (simp (disch := omega) only [w32_id, w64_id]; omega) | (simp (disch := omega) only [w32_id, w64_id] at *; omega) | (simp only [w32, w64] at *; omega) | exact (and32_le (by omega) (by omega)).1 | exact (and32_le (by omega) (by omega)).2 | exact (mulR (by omega) (by omega) (by omega) (by omega)).1 | exact (mulR (by omega) (by omega) (by omega) (by omega)).2 | (subst_vars; simp [upZ] at *; omega) | (subst_vars; simp [upZ] at *; simp only [w32, w64] at *; omega)), trivial⟩) (by first | omega | (simp (disch := omega) only [w32_id, w64_id]; omega) | (simp (disch := omega) only [w32_id, w64_id] at *; omega) | (simp only [w32, w64] at *; omega) | exact (and32_le (by omega) (by omega)).1 | exact (and32_le (by omega) (by omega)).2 | exact (mulR (by omega) (by omega) (by omega) (by omega)).1 | exact (mulR (by omega) (by omega) (by omega) (by omega)).2 | (subst_vars; simp [upZ] at *; omega) | (subst_vars; simp [upZ] at *; simp only [w32, w64] at *; omega))))
          | ((fail_if_success (first | (with_reducible show _ ≤ _) | (with_reducible show _ = _) | (with_reducible show _ ∨ _) | (with_reducible show _ < _) | (with_reducible show G _ _ _ _))); exact Exists.intro _ (Exists.intro _ ⟨rfl, rfl, by assumption, by assumption, by (first | omega | (simp (disch := omega) only [w32_id, w64_id]; omega) | (simp (disch := omega) only [w32_id, w64_id] at *; omega) | (simp only [w32, w64] at *; omega) | exact (and32_le (by omega) (by omega)).1 | exact (and32_le (by omega) (by omega)).2 | exact (mulR (by omega) (by omega) (by omega) (by omega)).1 | exact (mulR (by omega) (by omega) (by omega) (by omega)).2 | (subst_vars; simp [upZ] at *; omega) | (subst_vars; simp [upZ] at *; simp only [w32, w64] at *; omega)), by (first | omega | (simp (disch := omega) only [w32_id, w64_id]; omega) | (simp (disch := omega) only [w32_id, w64_id] at *; omega) | (simp only [w32, w64] at *; omega) | exact (and32_le (by omega) (by omega)).1 | exact (and32_le (by omega) (by omega)).2 | exact (mulR (by omega) (by omega) (by omega) (by omega)).1 | exact (mulR (by omega) (by omega) (by omega) (by omega)).2 | (subst_vars; simp [upZ] at *; omega) | (subst_vars; simp [upZ] at *; simp only [w32, w64] at *; omega))⟩))
          | ((fail_if_success (first | (with_reducible show _ ≤ _) | (with_reducible show _ = _) | (with_reducible show _ ∨ _) | (with_reducible show _ < _) | (with_reducible show G _ _ _ _))); exact Exists.intro _ (Exists.intro _ ⟨rfl, rfl, by assumption, by assumption⟩))
          | ((fail_if_success (first | (with_reducible show _ ≤ _) | (with_reducible show _ = _) | (with_reducible show _ ∨ _) | (with_reducible show _ < _) | (with_reducible show G _ _ _ _))); exact Exists.intro _ ⟨rfl, rfl, by assumption, by assumption⟩)
          | ((fail_if_success (first | (with_reducible show _ ≤ _) | (with_reducible show _ = _) | (with_reducible show _ ∨ _) | (with_reducible show _ < _) | (with_reducible show G _ _ _ _))); exact Or.inl (Exists.intro _ ⟨rfl, rfl, by assumption, by assumption⟩))
          | ((fail_if_success (first | (with_reducible show _ ≤ _) | (with_reducible show _ = _) | (with_reducible show _ ∨ _) | (with_reducible show _ < _) | (with_reducible show G _ _ _ _))); exact Or.inr (Exists.intro _ ⟨rfl, rfl, by assumption, by assumption⟩))
          | omega
          | rfl
          | exact trivial
          | decide
          | (show (0 : Int) < _; omega)
          | (show (0 : Int) < _; simp only [w64] at *; omega)
          | (simp only [w32, w64] at *; omega)
          | (first | omega | (simp (disch := omega) only [w32_id, w64_id]; omega) | (simp (disch := omega) only [w32_id, w64_id] at *; omega) | (simp only [w32, w64] at *; omega) | exact (and32_le (by omega) (by omega)).1 | exact (and32_le (by omega) (by omega)).2 | exact (mulR (by omega) (by omega) (by omega) (by omega)).1 | exact (mulR (by omega) (by omega) (by omega) (by omega)).2 | (subst_vars; simp [upZ] at *; omega) | (subst_vars; simp [upZ] at *; simp only [w32, w64] at *; omega))
          | skip
  refine wq_run hG n R0 [2] 900 _ _ _ _ ?_
  repeat' (first
      | with_reducible rfl
      | refine And.intro ?_ ?_
      | with_reducible exact True.intro
      | ((with_reducible show _ = true); rfl)
      | ((with_reducible show recvG _ _); rfl)
      | ((with_reducible show CI _); first | with_reducible assumption | assumption)
      | (fail_if_success (first | (with_reducible show _ ≤ _) | (with_reducible show _ = _) | (with_reducible show _ ∨ _) | (with_reducible show _ < _) | (with_reducible show G _ _ _ _))
         first
         | show G _ _ _ _
         | (intro (Z2 : ZT) hZ2; have hZ3 : Z' = Z2 := hZ2.symm; subst hZ3)
         | (intro (Z2 : ZT) hZ2; have hZ3 : Z1 = Z2 := hZ2.symm; subst hZ3)
         | (intro (Z2 : ZT) hZ2; have hZ3 : Z = Z2 := hZ2.symm; subst hZ3)
         | (refine ld_bnd (by first | with_reducible assumption | assumption) rfl ?_; intro _ _ _ _)
         | (refine st_bnd (by first | with_reducible assumption | assumption) (by first | with_reducible assumption | assumption) (by decide) (fun lo hi hb => by first | (cases hb; done) | (cases hb; constructor <;> (first | omega | (simp (disch := omega) only [w32_id, w64_id]; omega) | (simp (disch := omega) only [w32_id, w64_id] at *; omega) | (simp only [w32, w64] at *; omega) | exact (and32_le (by omega) (by omega)).1 | exact (and32_le (by omega) (by omega)).2 | exact (mulR (by omega) (by omega) (by omega) (by omega)).1 | exact (mulR (by omega) (by omega) (by omega) (by omega)).2 | (subst_vars; simp [upZ] at *; omega) | (subst_vars; simp [upZ] at *; simp only [w32, w64] at *; omega)))) ?_; intro Z' _ _ _)
         | (intro (r : Option PV) σ' hq
            first
            | (obtain ⟨rfl, rfl⟩ := hq)
            | (obtain ⟨Z', x, rfl, rfl, hI2, hk2, hl2, hu2⟩ := hq; have hk3 := keeps_to (by first | with_reducible assumption | assumption) (by rfl) hk2; clear hk2)
            | (obtain ⟨Z', x, rfl, rfl, hI2, hk2⟩ := hq; have hk3 := keeps_to (by first | with_reducible assumption | assumption) (by rfl) hk2; clear hk2)
            | (rcases hq with ⟨Z', rfl, rfl, hI2, hk2⟩ | ⟨Z', rfl, rfl, hI2, hk2⟩ <;> (have hk3 := keeps_to (by first | with_reducible assumption | assumption) (by rfl) hk2; clear hk2))
            | (obtain ⟨Z', rfl, rfl, hI2, hk2⟩ := hq; have hk3 := keeps_to (by first | with_reducible assumption | assumption) (by rfl) hk2; clear hk2))
         | (intro hc; (try simp only [cmp3_c] at hc); simp only [cmpI] at hc)
         | (show CI _; assumption)
         | intro (_ : Int)
         | intro (Z' : ZT)
         | intro (_ : CI _)
         | intro (_ : keeps _ _ _)
         | intro (_ : _ ≤ _)
         | intro (_ : _ = _)
         | intro (_ : _ < _)
         | intro (_ : _ ∨ _)))
  all_goals (have lp2 := loop 1000000)
  all_goals first
    | with_reducible rfl
    | ((with_reducible show _ = _); rfl)
    | ((with_reducible show recvG _ _); rfl)
    | with_reducible exact trivial
    | ((fail_if_success (first | (with_reducible show _ ≤ _) | (with_reducible show _ = _) | (with_reducible show _ ∨ _) | (with_reducible show _ < _) | (with_reducible show G _ _ _ _))); (refine Exists.intro _ (And.intro rfl (And.intro rfl (And.intro ?_ ?_)))) <;> with_reducible assumption)
    | ((with_reducible show G 2 _ _ _); exact hG.2 2 _ [(0, vr 80), (1, vi _)] _ _ rfl (lp2 _ _ (by assumption) (by assumption) (by refine ⟨by first | omega | (refine ⟨?_, ?_⟩ <;> (first | omega | (simp (disch := omega) only [w32_id, w64_id]; omega) | (simp (disch := omega) only [w32_id, w64_id] at *; omega) | (simp only [w32, w64] at *; omega) | exact (and32_le (by omega) (by omega)).1 | exact (and32_le (by omega) (by omega)).2 | exact (mulR (by omega) (by omega) (by omega) (by omega)).1 | exact (mulR (by omega) (by omega) (by omega) (by omega)).2 | (subst_vars; simp [upZ] at *; omega) | (subst_vars; simp [upZ] at *; simp only [w32, w64] at *; omega))) | (first | omega | (simp (disch := omega) only [w32_id, w64_id]; omega) | (simp (disch := omega) only [w32_id, w64_id] at *; omega) | (simp only [w32, w64] at *; omega) | exact (and32_le (by omega) (by omega)).1 | exact (and32_le (by omega) (by omega)).2 | exact (mulR (by omega) (by omega) (by omega) (by omega)).1 | exact (mulR (by omega) (by omega) (by omega) (by omega)).2 | (subst_vars; simp [upZ] at *; omega) | (subst_vars; simp [upZ] at *; simp only [w32, w64] at *; omega)), trivial⟩) (by first | omega | (simp (disch := omega) only [w32_id, w64_id]; omega) | (simp (disch := omega) only [w32_id, w64_id] at *; omega) | (simp only [w32, w64] at *; omega) | exact (and32_le (by omega) (by omega)).1 | exact (and32_le (by omega) (by omega)).2 | exact (mulR (by omega) (by omega) (by omega) (by omega)).1 | exact (mulR (by omega) (by omega) (by omega) (by omega)).2 | (subst_vars; simp [upZ] at *; omega) | (subst_vars; simp [upZ] at *; simp only [w32, w64] at *; omega))))
    | ((fail_if_success (first | (with_reducible show _ ≤ _) | (with_reducible show _ = _) | (with_reducible show _ ∨ _) | (with_reducible show _ < _) | (with_reducible show G _ _ _ _))); exact Exists.intro _ (Exists.intro _ ⟨rfl, rfl, by assumption, by assumption, by (first | omega | (simp (disch := omega) only [w32_id, w64_id]; omega) | (simp (disch := omega) only [w32_id, w64_id] at *; omega) | (simp only [w32, w64] at *; omega) | exact (and32_le (by omega) (by omega)).1 | exact (and32_le (by omega) (by omega)).2 | exact (mulR (by omega) (by omega) (by omega) (by omega)).1 | exact (mulR (by omega) (by omega) (by omega) (by omega)).2 | (subst_vars; simp [upZ] at *; omega) | (subst_vars; simp [upZ] at *; simp only [w32, w64] at *; omega)), by (first | omega | (simp (disch := omega) only [w32_id, w64_id]; omega) | (simp (disch := omega) only [w32_id, w64_id] at *; omega) | (simp only [w32, w64] at *; omega) | exact (and32_le (by omega) (by omega)).1 | exact (and32_le (by omega) (by omega)).2 | exact (mulR (by omega) (by omega) (by omega) (by omega)).1 | exact (mulR (by omega) (by omega) (by omega) (by omega)).2 | (subst_vars; simp [upZ] at *; omega) | (subst_vars; simp [upZ] at *; simp only [w32, w64] at *; omega))⟩))
    | ((fail_if_success (first | (with_reducible show _ ≤ _) | (with_reducible show _ = _) | (with_reducible show _ ∨ _) | (with_reducible show _ < _) | (with_reducible show G _ _ _ _))); exact Exists.intro _ (Exists.intro _ ⟨rfl, rfl, by assumption, by assumption⟩))
    | ((fail_if_success (first | (with_reducible show _ ≤ _) | (with_reducible show _ = _) | (with_reducible show _ ∨ _) | (with_reducible show _ < _) | (with_reducible show G _ _ _ _))); exact Exists.intro _ ⟨rfl, rfl, by assumption, by assumption⟩)
    | ((fail_if_success (first | (with_reducible show _ ≤ _) | (with_reducible show _ = _) | (with_reducible show _ ∨ _) | (with_reducible show _ < _) | (with_reducible show G _ _ _ _))); exact Or.inl (Exists.intro _ ⟨rfl, rfl, by assumption, by assumption⟩))
    | ((fail_if_success (first | (with_reducible show _ ≤ _) | (with_reducible show _ = _) | (with_reducible show _ ∨ _) | (with_reducible show _ < _) | (with_reducible show G _ _ _ _))); exact Or.inr (Exists.intro _ ⟨rfl, rfl, by assumption, by assumption⟩))
    | omega
    | rfl
    | exact trivial
    | decide
    | (show (0 : Int) < _; omega)
    | (show (0 : Int) < _; simp only [w64] at *; omega)
    | (simp only [w32, w64] at *; omega)
    | (first | omega | (simp (disch := omega) only [w32_id, w64_id]; omega) | (simp (disch := omega) only [w32_id, w64_id] at *; omega) | (simp only [w32, w64] at *; omega) | exact (and32_le (by omega) (by omega)).1 | exact (and32_le (by omega) (by omega)).2 | exact (mulR (by omega) (by omega) (by omega) (by omega)).1 | exact (mulR (by omega) (by omega) (by omega) (by omega)).2 | (subst_vars; simp [upZ] at *; omega) | (subst_vars; simp [upZ] at *; simp only [w32, w64] at *; omega))
    | skip
def s_X1_keepSum : Sp := wspV 6 1 (fun as Z => match as with
    | [.inr (.inr a0), .inl a1, .inl a2, .inl a3, .inl a4, .inr (.inl a5)] => ((a0 = 80)) ∧ ((0 ≤ a1 ∧ a1 ≤ 12)) ∧ ((0 ≤ a2 ∧ a2 ≤ 3)) ∧ (True) ∧ (True) ∧ (True) ∧ True
    | _ => False) (fun as => match as with
    | [.inr (.inr a0), .inl a1, .inl a2, .inl a3, .inl a4, .inr (.inl a5)] => [80, 81, 82]
    | _ => [])
set_option maxRecDepth 100000 in
set_option maxHeartbeats 40000000 in
theorem c_X1_keepSum {l : Launch} {D : va_G} {cA : Nat → ClassId} : PM l D cA yX1_keepSum cX1_keepSum 7 none 1 21 s_X1_keepSum := by
  refine of_X1_keepSum (c_X1_clearTold) ⟨rfl, rfl⟩ (fun as σ hwf hao hpre => ?_)
  obtain ⟨n, Z, R⟩ := σ
  obtain ⟨hR, hI, hpre⟩ := hpre
  obtain rfl : R = R0 := hR
  rcases as with _ | ⟨x | x | a0, _ | ⟨a1 | x | x, _ | ⟨a2 | x | x, _ | ⟨a3 | x | x, _ | ⟨a4 | x | x, _ | ⟨x | a5 | x, _ | ⟨v, t⟩⟩⟩⟩⟩⟩⟩ <;> first | exact (hpre : False).elim | skip
  obtain ⟨k1l, k1u⟩ : okI a1 := hao (vi a1) (by simp)
  obtain ⟨k2l, k2u⟩ : okI a2 := hao (vi a2) (by simp)
  obtain ⟨k3l, k3u⟩ : okI a3 := hao (vi a3) (by simp)
  obtain ⟨k4l, k4u⟩ : okI a4 := hao (vi a4) (by simp)
  obtain ⟨k5l, k5u⟩ : okL a5 := hao (vl a5) (by simp)
  obtain ⟨h0, h1, h2, h3, h4, h5, -⟩ := hpre
  have hk : keeps ([80, 81, 82]) Z Z := keeps_refl
  refine ⟨Nat.le_of_ble_eq_true rfl, fun G hG => ?_⟩
  clear hao hwf
  obtain rfl := h0
  refine wq_run hG n R0 [] 900 _ _ _ _ ?_
  repeat' (first
      | with_reducible rfl
      | refine And.intro ?_ ?_
      | with_reducible exact True.intro
      | ((with_reducible show _ = true); rfl)
      | ((with_reducible show recvG _ _); rfl)
      | ((with_reducible show CI _); first | with_reducible assumption | assumption)
      | (fail_if_success (first | (with_reducible show _ ≤ _) | (with_reducible show _ = _) | (with_reducible show _ ∨ _) | (with_reducible show _ < _) | (with_reducible show G _ _ _ _))
         first
         | show G _ _ _ _
         | (intro (Z2 : ZT) hZ2; have hZ3 : Z' = Z2 := hZ2.symm; subst hZ3)
         | (intro (Z2 : ZT) hZ2; have hZ3 : Z1 = Z2 := hZ2.symm; subst hZ3)
         | (intro (Z2 : ZT) hZ2; have hZ3 : Z = Z2 := hZ2.symm; subst hZ3)
         | (refine ld_bnd (by first | with_reducible assumption | assumption) rfl ?_; intro _ _ _ _)
         | (refine st_bnd (by first | with_reducible assumption | assumption) (by first | with_reducible assumption | assumption) (by decide) (fun lo hi hb => by first | (cases hb; done) | (cases hb; constructor <;> (first | omega | (simp (disch := omega) only [w32_id, w64_id]; omega) | (simp (disch := omega) only [w32_id, w64_id] at *; omega) | (simp only [w32, w64] at *; omega) | exact (and32_le (by omega) (by omega)).1 | exact (and32_le (by omega) (by omega)).2 | exact (mulR (by omega) (by omega) (by omega) (by omega)).1 | exact (mulR (by omega) (by omega) (by omega) (by omega)).2 | (subst_vars; simp [upZ] at *; omega) | (subst_vars; simp [upZ] at *; simp only [w32, w64] at *; omega)))) ?_; intro Z' _ _ _)
         | (intro (r : Option PV) σ' hq
            first
            | (obtain ⟨rfl, rfl⟩ := hq)
            | (obtain ⟨Z', x, rfl, rfl, hI2, hk2, hl2, hu2⟩ := hq; have hk3 := keeps_to (by first | with_reducible assumption | assumption) (by rfl) hk2; clear hk2)
            | (obtain ⟨Z', x, rfl, rfl, hI2, hk2⟩ := hq; have hk3 := keeps_to (by first | with_reducible assumption | assumption) (by rfl) hk2; clear hk2)
            | (rcases hq with ⟨Z', rfl, rfl, hI2, hk2⟩ | ⟨Z', rfl, rfl, hI2, hk2⟩ <;> (have hk3 := keeps_to (by first | with_reducible assumption | assumption) (by rfl) hk2; clear hk2))
            | (obtain ⟨Z', rfl, rfl, hI2, hk2⟩ := hq; have hk3 := keeps_to (by first | with_reducible assumption | assumption) (by rfl) hk2; clear hk2))
         | (intro hc; (try simp only [cmp3_c] at hc); simp only [cmpI] at hc)
         | (show CI _; assumption)
         | intro (_ : Int)
         | intro (Z' : ZT)
         | intro (_ : CI _)
         | intro (_ : keeps _ _ _)
         | intro (_ : _ ≤ _)
         | intro (_ : _ = _)
         | intro (_ : _ < _)
         | intro (_ : _ ∨ _)))
  all_goals first
    | with_reducible rfl
    | ((with_reducible show _ = _); rfl)
    | ((with_reducible show recvG _ _); rfl)
    | with_reducible exact trivial
    | ((fail_if_success (first | (with_reducible show _ ≤ _) | (with_reducible show _ = _) | (with_reducible show _ ∨ _) | (with_reducible show _ < _) | (with_reducible show G _ _ _ _))); (refine Exists.intro _ (And.intro rfl (And.intro rfl (And.intro ?_ ?_)))) <;> with_reducible assumption)
    | ((fail_if_success (first | (with_reducible show _ ≤ _) | (with_reducible show _ = _) | (with_reducible show _ ∨ _) | (with_reducible show _ < _) | (with_reducible show G _ _ _ _))); exact Exists.intro _ (Exists.intro _ ⟨rfl, rfl, by assumption, by assumption, by (first | omega | (simp (disch := omega) only [w32_id, w64_id]; omega) | (simp (disch := omega) only [w32_id, w64_id] at *; omega) | (simp only [w32, w64] at *; omega) | exact (and32_le (by omega) (by omega)).1 | exact (and32_le (by omega) (by omega)).2 | exact (mulR (by omega) (by omega) (by omega) (by omega)).1 | exact (mulR (by omega) (by omega) (by omega) (by omega)).2 | (subst_vars; simp [upZ] at *; omega) | (subst_vars; simp [upZ] at *; simp only [w32, w64] at *; omega)), by (first | omega | (simp (disch := omega) only [w32_id, w64_id]; omega) | (simp (disch := omega) only [w32_id, w64_id] at *; omega) | (simp only [w32, w64] at *; omega) | exact (and32_le (by omega) (by omega)).1 | exact (and32_le (by omega) (by omega)).2 | exact (mulR (by omega) (by omega) (by omega) (by omega)).1 | exact (mulR (by omega) (by omega) (by omega) (by omega)).2 | (subst_vars; simp [upZ] at *; omega) | (subst_vars; simp [upZ] at *; simp only [w32, w64] at *; omega))⟩))
    | ((fail_if_success (first | (with_reducible show _ ≤ _) | (with_reducible show _ = _) | (with_reducible show _ ∨ _) | (with_reducible show _ < _) | (with_reducible show G _ _ _ _))); exact Exists.intro _ (Exists.intro _ ⟨rfl, rfl, by assumption, by assumption⟩))
    | ((fail_if_success (first | (with_reducible show _ ≤ _) | (with_reducible show _ = _) | (with_reducible show _ ∨ _) | (with_reducible show _ < _) | (with_reducible show G _ _ _ _))); exact Exists.intro _ ⟨rfl, rfl, by assumption, by assumption⟩)
    | ((fail_if_success (first | (with_reducible show _ ≤ _) | (with_reducible show _ = _) | (with_reducible show _ ∨ _) | (with_reducible show _ < _) | (with_reducible show G _ _ _ _))); exact Or.inl (Exists.intro _ ⟨rfl, rfl, by assumption, by assumption⟩))
    | ((fail_if_success (first | (with_reducible show _ ≤ _) | (with_reducible show _ = _) | (with_reducible show _ ∨ _) | (with_reducible show _ < _) | (with_reducible show G _ _ _ _))); exact Or.inr (Exists.intro _ ⟨rfl, rfl, by assumption, by assumption⟩))
    | omega
    | rfl
    | exact trivial
    | decide
    | (show (0 : Int) < _; omega)
    | (show (0 : Int) < _; simp only [w64] at *; omega)
    | (simp only [w32, w64] at *; omega)
    | (first | omega | (simp (disch := omega) only [w32_id, w64_id]; omega) | (simp (disch := omega) only [w32_id, w64_id] at *; omega) | (simp only [w32, w64] at *; omega) | exact (and32_le (by omega) (by omega)).1 | exact (and32_le (by omega) (by omega)).2 | exact (mulR (by omega) (by omega) (by omega) (by omega)).1 | exact (mulR (by omega) (by omega) (by omega) (by omega)).2 | (subst_vars; simp [upZ] at *; omega) | (subst_vars; simp [upZ] at *; simp only [w32, w64] at *; omega))
    | skip
def s_X1_toldSums : Sp := wspU 1 1 (fun as Z => match as with
    | [.inr (.inr a0)] => ((a0 = 80)) ∧ True
    | _ => False) (fun as => match as with
    | [.inr (.inr a0)] => []
    | _ => [])
set_option maxRecDepth 100000 in
set_option maxHeartbeats 40000000 in
theorem c_X1_toldSums {l : Launch} {D : va_G} {cA : Nat → ClassId} : PM l D cA yX1_toldSums cX1_toldSums 3 (some .int) 0 0 s_X1_toldSums := by
  refine of_X1_toldSums  (fun as σ hwf hao hpre => ?_)
  obtain ⟨n, Z, R⟩ := σ
  obtain ⟨hR, hI, hpre⟩ := hpre
  obtain rfl : R = R0 := hR
  rcases as with _ | ⟨x | x | a0, _ | ⟨v, t⟩⟩ <;> first | exact (hpre : False).elim | skip
  obtain ⟨h0, -⟩ := hpre
  have hk : keeps ([]) Z Z := keeps_refl
  refine ⟨Nat.le_of_ble_eq_true rfl, fun G hG => ?_⟩
  clear hao hwf
  obtain rfl := h0
  have loop : ∀ fuel : Nat, (∀ (Z1 : ZT) (v1 : Int) (v2 : Int), CI Z1 → keeps ([]) Z Z1 → ((0 ≤ v2 ∧ v2 ≤ 6) ∧ True) → 7 - v2 ≤ (fuel : Int) → G 4 [(0, vr 80), (1, vi v1), (2, vi v2)] [] (n, Z1, R0)) := by
    intro fuel
    induction fuel with
    | zero => exact (by intros; omega)
    | succ fuel ih =>
      have ih4 := ih
      · intro Z1 v1 v2 hI1 hk1 hv hm
        obtain ⟨w0, -⟩ := hv
        clear hk hI
        refine wq_run hG n R0 [4] 900 _ _ _ _ ?_
        repeat' (first
            | with_reducible rfl
            | refine And.intro ?_ ?_
            | with_reducible exact True.intro
            | ((with_reducible show _ = true); rfl)
            | ((with_reducible show recvG _ _); rfl)
            | ((with_reducible show CI _); first | with_reducible assumption | assumption)
            | (fail_if_success (first | (with_reducible show _ ≤ _) | (with_reducible show _ = _) | (with_reducible show _ ∨ _) | (with_reducible show _ < _) | (with_reducible show G _ _ _ _))
               first
               | show G _ _ _ _
               | (intro (Z2 : ZT) hZ2; have hZ3 : Z' = Z2 := hZ2.symm; subst hZ3)
               | (intro (Z2 : ZT) hZ2; have hZ3 : Z1 = Z2 := hZ2.symm; subst hZ3)
               | (intro (Z2 : ZT) hZ2; have hZ3 : Z = Z2 := hZ2.symm; subst hZ3)
               | (refine ld_bnd (by first | with_reducible assumption | assumption) rfl ?_; intro _ _ _ _)
               | (refine st_bnd (by first | with_reducible assumption | assumption) (by first | with_reducible assumption | assumption) (by decide) (fun lo hi hb => by first | (cases hb; done) | (cases hb; constructor <;> (first | omega | (simp (disch := omega) only [w32_id, w64_id]; omega) | (simp (disch := omega) only [w32_id, w64_id] at *; omega) | (simp only [w32, w64] at *; omega) | exact (and32_le (by omega) (by omega)).1 | exact (and32_le (by omega) (by omega)).2 | exact (mulR (by omega) (by omega) (by omega) (by omega)).1 | exact (mulR (by omega) (by omega) (by omega) (by omega)).2 | (subst_vars; simp [upZ] at *; omega) | (subst_vars; simp [upZ] at *; simp only [w32, w64] at *; omega)))) ?_; intro Z' _ _ _)
               | (intro (r : Option PV) σ' hq
                  first
                  | (obtain ⟨rfl, rfl⟩ := hq)
                  | (obtain ⟨Z', x, rfl, rfl, hI2, hk2, hl2, hu2⟩ := hq; have hk3 := keeps_to (by first | with_reducible assumption | assumption) (by rfl) hk2; clear hk2)
                  | (obtain ⟨Z', x, rfl, rfl, hI2, hk2⟩ := hq; have hk3 := keeps_to (by first | with_reducible assumption | assumption) (by rfl) hk2; clear hk2)
                  | (rcases hq with ⟨Z', rfl, rfl, hI2, hk2⟩ | ⟨Z', rfl, rfl, hI2, hk2⟩ <;> (have hk3 := keeps_to (by first | with_reducible assumption | assumption) (by rfl) hk2; clear hk2))
                  | (obtain ⟨Z', rfl, rfl, hI2, hk2⟩ := hq; have hk3 := keeps_to (by first | with_reducible assumption | assumption) (by rfl) hk2; clear hk2))
               | (intro hc; (try simp only [cmp3_c] at hc); simp only [cmpI] at hc)
               | (show CI _; assumption)
               | intro (_ : Int)
               | intro (Z' : ZT)
               | intro (_ : CI _)
               | intro (_ : keeps _ _ _)
               | intro (_ : _ ≤ _)
               | intro (_ : _ = _)
               | intro (_ : _ < _)
               | intro (_ : _ ∨ _)))
        all_goals first
          | with_reducible rfl
          | ((with_reducible show _ = _); rfl)
          | ((with_reducible show recvG _ _); rfl)
          | with_reducible exact trivial
          | ((fail_if_success (first | (with_reducible show _ ≤ _) | (with_reducible show _ = _) | (with_reducible show _ ∨ _) | (with_reducible show _ < _) | (with_reducible show G _ _ _ _))); (refine Exists.intro _ (And.intro rfl (And.intro rfl (And.intro ?_ ?_)))) <;> with_reducible assumption)
          | ((with_reducible show G 4 _ _ _); exact hG.2 4 _ [(0, vr 80), (1, vi _), (2, vi _)] _ _ rfl (ih4 _ _ _ (by assumption) (by assumption) (by refine ⟨by first | omega | (refine ⟨?_, ?_⟩ <;> (first | omega | (simp (disch := omega) only [w32_id, w64_id]; omega) | (simp (disch := omega) only [w32_id, w64_id] at *; omega) | (simp only [w32, w64] at *; omega) | exact (and32_le (by omega) (by omega)).1 | exact (and32_le (by omega) (by omega)).2 | exact (mulR (by omega) (by omega) (by omega) (by omega)).1 | exact (mulR (by omega) (by omega) (by omega) (by omega)).2 | (subst_vars; simp [upZ] at *; omega) | (subst_vars; simp [upZ] at *; simp only [w32, w64] at *; omega))) | (first | omega | (simp (disch := omega) only [w32_id, w64_id]; omega) | (simp (disch := omega) only [w32_id, w64_id] at *; omega) | (simp only [w32, w64] at *; omega) | exact (and32_le (by omega) (by omega)).1 | exact (and32_le (by omega) (by omega)).2 | exact (mulR (by omega) (by omega) (by omega) (by omega)).1 | exact (mulR (by omega) (by omega) (by omega) (by omega)).2 | (subst_vars; simp [upZ] at *; omega) | (subst_vars; simp [upZ] at *; simp only [w32, w64] at *; omega)), trivial⟩) (by first | omega | (simp (disch := omega) only [w32_id, w64_id]; omega) | (simp (disch := omega) only [w32_id, w64_id] at *; omega) | (simp only [w32, w64] at *; omega) | exact (and32_le (by omega) (by omega)).1 | exact (and32_le (by omega) (by omega)).2 | exact (mulR (by omega) (by omega) (by omega) (by omega)).1 | exact (mulR (by omega) (by omega) (by omega) (by omega)).2 | (subst_vars; simp [upZ] at *; omega) | (subst_vars; simp [upZ] at *; simp only [w32, w64] at *; omega))))
          | ((fail_if_success (first | (with_reducible show _ ≤ _) | (with_reducible show _ = _) | (with_reducible show _ ∨ _) | (with_reducible show _ < _) | (with_reducible show G _ _ _ _))); exact Exists.intro _ (Exists.intro _ ⟨rfl, rfl, by assumption, by assumption, by (first | omega | (simp (disch := omega) only [w32_id, w64_id]; omega) | (simp (disch := omega) only [w32_id, w64_id] at *; omega) | (simp only [w32, w64] at *; omega) | exact (and32_le (by omega) (by omega)).1 | exact (and32_le (by omega) (by omega)).2 | exact (mulR (by omega) (by omega) (by omega) (by omega)).1 | exact (mulR (by omega) (by omega) (by omega) (by omega)).2 | (subst_vars; simp [upZ] at *; omega) | (subst_vars; simp [upZ] at *; simp only [w32, w64] at *; omega)), by (first | omega | (simp (disch := omega) only [w32_id, w64_id]; omega) | (simp (disch := omega) only [w32_id, w64_id] at *; omega) | (simp only [w32, w64] at *; omega) | exact (and32_le (by omega) (by omega)).1 | exact (and32_le (by omega) (by omega)).2 | exact (mulR (by omega) (by omega) (by omega) (by omega)).1 | exact (mulR (by omega) (by omega) (by omega) (by omega)).2 | (subst_vars; simp [upZ] at *; omega) | (subst_vars; simp [upZ] at *; simp only [w32, w64] at *; omega))⟩))
          | ((fail_if_success (first | (with_reducible show _ ≤ _) | (with_reducible show _ = _) | (with_reducible show _ ∨ _) | (with_reducible show _ < _) | (with_reducible show G _ _ _ _))); exact Exists.intro _ (Exists.intro _ ⟨rfl, rfl, by assumption, by assumption⟩))
          | ((fail_if_success (first | (with_reducible show _ ≤ _) | (with_reducible show _ = _) | (with_reducible show _ ∨ _) | (with_reducible show _ < _) | (with_reducible show G _ _ _ _))); exact Exists.intro _ ⟨rfl, rfl, by assumption, by assumption⟩)
          | ((fail_if_success (first | (with_reducible show _ ≤ _) | (with_reducible show _ = _) | (with_reducible show _ ∨ _) | (with_reducible show _ < _) | (with_reducible show G _ _ _ _))); exact Or.inl (Exists.intro _ ⟨rfl, rfl, by assumption, by assumption⟩))
          | ((fail_if_success (first | (with_reducible show _ ≤ _) | (with_reducible show _ = _) | (with_reducible show _ ∨ _) | (with_reducible show _ < _) | (with_reducible show G _ _ _ _))); exact Or.inr (Exists.intro _ ⟨rfl, rfl, by assumption, by assumption⟩))
          | omega
          | rfl
          | exact trivial
          | decide
          | (show (0 : Int) < _; omega)
          | (show (0 : Int) < _; simp only [w64] at *; omega)
          | (simp only [w32, w64] at *; omega)
          | (first | omega | (simp (disch := omega) only [w32_id, w64_id]; omega) | (simp (disch := omega) only [w32_id, w64_id] at *; omega) | (simp only [w32, w64] at *; omega) | exact (and32_le (by omega) (by omega)).1 | exact (and32_le (by omega) (by omega)).2 | exact (mulR (by omega) (by omega) (by omega) (by omega)).1 | exact (mulR (by omega) (by omega) (by omega) (by omega)).2 | (subst_vars; simp [upZ] at *; omega) | (subst_vars; simp [upZ] at *; simp only [w32, w64] at *; omega))
          | skip
  refine wq_run hG n R0 [4] 900 _ _ _ _ ?_
  repeat' (first
      | with_reducible rfl
      | refine And.intro ?_ ?_
      | with_reducible exact True.intro
      | ((with_reducible show _ = true); rfl)
      | ((with_reducible show recvG _ _); rfl)
      | ((with_reducible show CI _); first | with_reducible assumption | assumption)
      | (fail_if_success (first | (with_reducible show _ ≤ _) | (with_reducible show _ = _) | (with_reducible show _ ∨ _) | (with_reducible show _ < _) | (with_reducible show G _ _ _ _))
         first
         | show G _ _ _ _
         | (intro (Z2 : ZT) hZ2; have hZ3 : Z' = Z2 := hZ2.symm; subst hZ3)
         | (intro (Z2 : ZT) hZ2; have hZ3 : Z1 = Z2 := hZ2.symm; subst hZ3)
         | (intro (Z2 : ZT) hZ2; have hZ3 : Z = Z2 := hZ2.symm; subst hZ3)
         | (refine ld_bnd (by first | with_reducible assumption | assumption) rfl ?_; intro _ _ _ _)
         | (refine st_bnd (by first | with_reducible assumption | assumption) (by first | with_reducible assumption | assumption) (by decide) (fun lo hi hb => by first | (cases hb; done) | (cases hb; constructor <;> (first | omega | (simp (disch := omega) only [w32_id, w64_id]; omega) | (simp (disch := omega) only [w32_id, w64_id] at *; omega) | (simp only [w32, w64] at *; omega) | exact (and32_le (by omega) (by omega)).1 | exact (and32_le (by omega) (by omega)).2 | exact (mulR (by omega) (by omega) (by omega) (by omega)).1 | exact (mulR (by omega) (by omega) (by omega) (by omega)).2 | (subst_vars; simp [upZ] at *; omega) | (subst_vars; simp [upZ] at *; simp only [w32, w64] at *; omega)))) ?_; intro Z' _ _ _)
         | (intro (r : Option PV) σ' hq
            first
            | (obtain ⟨rfl, rfl⟩ := hq)
            | (obtain ⟨Z', x, rfl, rfl, hI2, hk2, hl2, hu2⟩ := hq; have hk3 := keeps_to (by first | with_reducible assumption | assumption) (by rfl) hk2; clear hk2)
            | (obtain ⟨Z', x, rfl, rfl, hI2, hk2⟩ := hq; have hk3 := keeps_to (by first | with_reducible assumption | assumption) (by rfl) hk2; clear hk2)
            | (rcases hq with ⟨Z', rfl, rfl, hI2, hk2⟩ | ⟨Z', rfl, rfl, hI2, hk2⟩ <;> (have hk3 := keeps_to (by first | with_reducible assumption | assumption) (by rfl) hk2; clear hk2))
            | (obtain ⟨Z', rfl, rfl, hI2, hk2⟩ := hq; have hk3 := keeps_to (by first | with_reducible assumption | assumption) (by rfl) hk2; clear hk2))
         | (intro hc; (try simp only [cmp3_c] at hc); simp only [cmpI] at hc)
         | (show CI _; assumption)
         | intro (_ : Int)
         | intro (Z' : ZT)
         | intro (_ : CI _)
         | intro (_ : keeps _ _ _)
         | intro (_ : _ ≤ _)
         | intro (_ : _ = _)
         | intro (_ : _ < _)
         | intro (_ : _ ∨ _)))
  all_goals (have lp4 := loop 1000000)
  all_goals first
    | with_reducible rfl
    | ((with_reducible show _ = _); rfl)
    | ((with_reducible show recvG _ _); rfl)
    | with_reducible exact trivial
    | ((fail_if_success (first | (with_reducible show _ ≤ _) | (with_reducible show _ = _) | (with_reducible show _ ∨ _) | (with_reducible show _ < _) | (with_reducible show G _ _ _ _))); (refine Exists.intro _ (And.intro rfl (And.intro rfl (And.intro ?_ ?_)))) <;> with_reducible assumption)
    | ((with_reducible show G 4 _ _ _); exact hG.2 4 _ [(0, vr 80), (1, vi _), (2, vi _)] _ _ rfl (lp4 _ _ _ (by assumption) (by assumption) (by refine ⟨by first | omega | (refine ⟨?_, ?_⟩ <;> (first | omega | (simp (disch := omega) only [w32_id, w64_id]; omega) | (simp (disch := omega) only [w32_id, w64_id] at *; omega) | (simp only [w32, w64] at *; omega) | exact (and32_le (by omega) (by omega)).1 | exact (and32_le (by omega) (by omega)).2 | exact (mulR (by omega) (by omega) (by omega) (by omega)).1 | exact (mulR (by omega) (by omega) (by omega) (by omega)).2 | (subst_vars; simp [upZ] at *; omega) | (subst_vars; simp [upZ] at *; simp only [w32, w64] at *; omega))) | (first | omega | (simp (disch := omega) only [w32_id, w64_id]; omega) | (simp (disch := omega) only [w32_id, w64_id] at *; omega) | (simp only [w32, w64] at *; omega) | exact (and32_le (by omega) (by omega)).1 | exact (and32_le (by omega) (by omega)).2 | exact (mulR (by omega) (by omega) (by omega) (by omega)).1 | exact (mulR (by omega) (by omega) (by omega) (by omega)).2 | (subst_vars; simp [upZ] at *; omega) | (subst_vars; simp [upZ] at *; simp only [w32, w64] at *; omega)), trivial⟩) (by first | omega | (simp (disch := omega) only [w32_id, w64_id]; omega) | (simp (disch := omega) only [w32_id, w64_id] at *; omega) | (simp only [w32, w64] at *; omega) | exact (and32_le (by omega) (by omega)).1 | exact (and32_le (by omega) (by omega)).2 | exact (mulR (by omega) (by omega) (by omega) (by omega)).1 | exact (mulR (by omega) (by omega) (by omega) (by omega)).2 | (subst_vars; simp [upZ] at *; omega) | (subst_vars; simp [upZ] at *; simp only [w32, w64] at *; omega))))
    | ((fail_if_success (first | (with_reducible show _ ≤ _) | (with_reducible show _ = _) | (with_reducible show _ ∨ _) | (with_reducible show _ < _) | (with_reducible show G _ _ _ _))); exact Exists.intro _ (Exists.intro _ ⟨rfl, rfl, by assumption, by assumption, by (first | omega | (simp (disch := omega) only [w32_id, w64_id]; omega) | (simp (disch := omega) only [w32_id, w64_id] at *; omega) | (simp only [w32, w64] at *; omega) | exact (and32_le (by omega) (by omega)).1 | exact (and32_le (by omega) (by omega)).2 | exact (mulR (by omega) (by omega) (by omega) (by omega)).1 | exact (mulR (by omega) (by omega) (by omega) (by omega)).2 | (subst_vars; simp [upZ] at *; omega) | (subst_vars; simp [upZ] at *; simp only [w32, w64] at *; omega)), by (first | omega | (simp (disch := omega) only [w32_id, w64_id]; omega) | (simp (disch := omega) only [w32_id, w64_id] at *; omega) | (simp only [w32, w64] at *; omega) | exact (and32_le (by omega) (by omega)).1 | exact (and32_le (by omega) (by omega)).2 | exact (mulR (by omega) (by omega) (by omega) (by omega)).1 | exact (mulR (by omega) (by omega) (by omega) (by omega)).2 | (subst_vars; simp [upZ] at *; omega) | (subst_vars; simp [upZ] at *; simp only [w32, w64] at *; omega))⟩))
    | ((fail_if_success (first | (with_reducible show _ ≤ _) | (with_reducible show _ = _) | (with_reducible show _ ∨ _) | (with_reducible show _ < _) | (with_reducible show G _ _ _ _))); exact Exists.intro _ (Exists.intro _ ⟨rfl, rfl, by assumption, by assumption⟩))
    | ((fail_if_success (first | (with_reducible show _ ≤ _) | (with_reducible show _ = _) | (with_reducible show _ ∨ _) | (with_reducible show _ < _) | (with_reducible show G _ _ _ _))); exact Exists.intro _ ⟨rfl, rfl, by assumption, by assumption⟩)
    | ((fail_if_success (first | (with_reducible show _ ≤ _) | (with_reducible show _ = _) | (with_reducible show _ ∨ _) | (with_reducible show _ < _) | (with_reducible show G _ _ _ _))); exact Or.inl (Exists.intro _ ⟨rfl, rfl, by assumption, by assumption⟩))
    | ((fail_if_success (first | (with_reducible show _ ≤ _) | (with_reducible show _ = _) | (with_reducible show _ ∨ _) | (with_reducible show _ < _) | (with_reducible show G _ _ _ _))); exact Or.inr (Exists.intro _ ⟨rfl, rfl, by assumption, by assumption⟩))
    | omega
    | rfl
    | exact trivial
    | decide
    | (show (0 : Int) < _; omega)
    | (show (0 : Int) < _; simp only [w64] at *; omega)
    | (simp only [w32, w64] at *; omega)
    | (first | omega | (simp (disch := omega) only [w32_id, w64_id]; omega) | (simp (disch := omega) only [w32_id, w64_id] at *; omega) | (simp only [w32, w64] at *; omega) | exact (and32_le (by omega) (by omega)).1 | exact (and32_le (by omega) (by omega)).2 | exact (mulR (by omega) (by omega) (by omega) (by omega)).1 | exact (mulR (by omega) (by omega) (by omega) (by omega)).2 | (subst_vars; simp [upZ] at *; omega) | (subst_vars; simp [upZ] at *; simp only [w32, w64] at *; omega))
    | skip
def s_X1_agree : Sp := wspI 1 1 (fun as Z => match as with
    | [.inr (.inr a0)] => ((a0 = 80)) ∧ True
    | _ => False) (fun as => match as with
    | [.inr (.inr a0)] => []
    | _ => []) 0 1
set_option maxRecDepth 100000 in
set_option maxHeartbeats 40000000 in
theorem c_X1_agree {l : Launch} {D : va_G} {cA : Nat → ClassId} : PM l D cA yX1_agree cX1_agree 4 (some .boolean) 0 0 s_X1_agree := by
  refine of_X1_agree  (fun as σ hwf hao hpre => ?_)
  obtain ⟨n, Z, R⟩ := σ
  obtain ⟨hR, hI, hpre⟩ := hpre
  obtain rfl : R = R0 := hR
  rcases as with _ | ⟨x | x | a0, _ | ⟨v, t⟩⟩ <;> first | exact (hpre : False).elim | skip
  obtain ⟨h0, -⟩ := hpre
  have hk : keeps ([]) Z Z := keeps_refl
  refine ⟨Nat.le_of_ble_eq_true rfl, fun G hG => ?_⟩
  clear hao hwf
  obtain rfl := h0
  have loop : ∀ fuel : Nat, (∀ (Z1 : ZT) (v1 : Int) (v3 : Int), CI Z1 → keeps ([]) Z Z1 → ((0 ≤ v3 ∧ v3 ≤ 6) ∧ True) → 7 - v3 ≤ (fuel : Int) → G 4 [(0, vr 80), (1, vl v1), (3, vi v3)] [] (n, Z1, R0)) := by
    intro fuel
    induction fuel with
    | zero => exact (by intros; omega)
    | succ fuel ih =>
      have ih4 := ih
      · intro Z1 v1 v3 hI1 hk1 hv hm
        obtain ⟨w0, -⟩ := hv
        clear hk hI
        refine wq_run hG n R0 [4] 900 _ _ _ _ ?_
        repeat' (first
            | with_reducible rfl
            | refine And.intro ?_ ?_
            | with_reducible exact True.intro
            | ((with_reducible show _ = true); rfl)
            | ((with_reducible show recvG _ _); rfl)
            | ((with_reducible show CI _); first | with_reducible assumption | assumption)
            | (fail_if_success (first | (with_reducible show _ ≤ _) | (with_reducible show _ = _) | (with_reducible show _ ∨ _) | (with_reducible show _ < _) | (with_reducible show G _ _ _ _))
               first
               | show G _ _ _ _
               | (intro (Z2 : ZT) hZ2; have hZ3 : Z' = Z2 := hZ2.symm; subst hZ3)
               | (intro (Z2 : ZT) hZ2; have hZ3 : Z1 = Z2 := hZ2.symm; subst hZ3)
               | (intro (Z2 : ZT) hZ2; have hZ3 : Z = Z2 := hZ2.symm; subst hZ3)
               | (refine ld_bnd (by first | with_reducible assumption | assumption) rfl ?_; intro _ _ _ _)
               | (refine st_bnd (by first | with_reducible assumption | assumption) (by first | with_reducible assumption | assumption) (by decide) (fun lo hi hb => by first | (cases hb; done) | (cases hb; constructor <;> (first | omega | (simp (disch := omega) only [w32_id, w64_id]; omega) | (simp (disch := omega) only [w32_id, w64_id] at *; omega) | (simp only [w32, w64] at *; omega) | exact (and32_le (by omega) (by omega)).1 | exact (and32_le (by omega) (by omega)).2 | exact (mulR (by omega) (by omega) (by omega) (by omega)).1 | exact (mulR (by omega) (by omega) (by omega) (by omega)).2 | (subst_vars; simp [upZ] at *; omega) | (subst_vars; simp [upZ] at *; simp only [w32, w64] at *; omega)))) ?_; intro Z' _ _ _)
               | (intro (r : Option PV) σ' hq
                  first
                  | (obtain ⟨rfl, rfl⟩ := hq)
                  | (obtain ⟨Z', x, rfl, rfl, hI2, hk2, hl2, hu2⟩ := hq; have hk3 := keeps_to (by first | with_reducible assumption | assumption) (by rfl) hk2; clear hk2)
                  | (obtain ⟨Z', x, rfl, rfl, hI2, hk2⟩ := hq; have hk3 := keeps_to (by first | with_reducible assumption | assumption) (by rfl) hk2; clear hk2)
                  | (rcases hq with ⟨Z', rfl, rfl, hI2, hk2⟩ | ⟨Z', rfl, rfl, hI2, hk2⟩ <;> (have hk3 := keeps_to (by first | with_reducible assumption | assumption) (by rfl) hk2; clear hk2))
                  | (obtain ⟨Z', rfl, rfl, hI2, hk2⟩ := hq; have hk3 := keeps_to (by first | with_reducible assumption | assumption) (by rfl) hk2; clear hk2))
               | (intro hc; (try simp only [cmp3_c] at hc); simp only [cmpI] at hc)
               | (show CI _; assumption)
               | intro (_ : Int)
               | intro (Z' : ZT)
               | intro (_ : CI _)
               | intro (_ : keeps _ _ _)
               | intro (_ : _ ≤ _)
               | intro (_ : _ = _)
               | intro (_ : _ < _)
               | intro (_ : _ ∨ _)))
        all_goals first
          | with_reducible rfl
          | ((with_reducible show _ = _); rfl)
          | ((with_reducible show recvG _ _); rfl)
          | with_reducible exact trivial
          | ((fail_if_success (first | (with_reducible show _ ≤ _) | (with_reducible show _ = _) | (with_reducible show _ ∨ _) | (with_reducible show _ < _) | (with_reducible show G _ _ _ _))); (refine Exists.intro _ (And.intro rfl (And.intro rfl (And.intro ?_ ?_)))) <;> with_reducible assumption)
          | ((with_reducible show G 4 _ _ _); exact hG.2 4 _ [(0, vr 80), (1, vl _), (3, vi _)] _ _ rfl (ih4 _ _ _ (by assumption) (by assumption) (by refine ⟨by first | omega | (refine ⟨?_, ?_⟩ <;> (first | omega | (simp (disch := omega) only [w32_id, w64_id]; omega) | (simp (disch := omega) only [w32_id, w64_id] at *; omega) | (simp only [w32, w64] at *; omega) | exact (and32_le (by omega) (by omega)).1 | exact (and32_le (by omega) (by omega)).2 | exact (mulR (by omega) (by omega) (by omega) (by omega)).1 | exact (mulR (by omega) (by omega) (by omega) (by omega)).2 | (subst_vars; simp [upZ] at *; omega) | (subst_vars; simp [upZ] at *; simp only [w32, w64] at *; omega))) | (first | omega | (simp (disch := omega) only [w32_id, w64_id]; omega) | (simp (disch := omega) only [w32_id, w64_id] at *; omega) | (simp only [w32, w64] at *; omega) | exact (and32_le (by omega) (by omega)).1 | exact (and32_le (by omega) (by omega)).2 | exact (mulR (by omega) (by omega) (by omega) (by omega)).1 | exact (mulR (by omega) (by omega) (by omega) (by omega)).2 | (subst_vars; simp [upZ] at *; omega) | (subst_vars; simp [upZ] at *; simp only [w32, w64] at *; omega)), trivial⟩) (by first | omega | (simp (disch := omega) only [w32_id, w64_id]; omega) | (simp (disch := omega) only [w32_id, w64_id] at *; omega) | (simp only [w32, w64] at *; omega) | exact (and32_le (by omega) (by omega)).1 | exact (and32_le (by omega) (by omega)).2 | exact (mulR (by omega) (by omega) (by omega) (by omega)).1 | exact (mulR (by omega) (by omega) (by omega) (by omega)).2 | (subst_vars; simp [upZ] at *; omega) | (subst_vars; simp [upZ] at *; simp only [w32, w64] at *; omega))))
          | ((fail_if_success (first | (with_reducible show _ ≤ _) | (with_reducible show _ = _) | (with_reducible show _ ∨ _) | (with_reducible show _ < _) | (with_reducible show G _ _ _ _))); exact Exists.intro _ (Exists.intro _ ⟨rfl, rfl, by assumption, by assumption, by (first | omega | (simp (disch := omega) only [w32_id, w64_id]; omega) | (simp (disch := omega) only [w32_id, w64_id] at *; omega) | (simp only [w32, w64] at *; omega) | exact (and32_le (by omega) (by omega)).1 | exact (and32_le (by omega) (by omega)).2 | exact (mulR (by omega) (by omega) (by omega) (by omega)).1 | exact (mulR (by omega) (by omega) (by omega) (by omega)).2 | (subst_vars; simp [upZ] at *; omega) | (subst_vars; simp [upZ] at *; simp only [w32, w64] at *; omega)), by (first | omega | (simp (disch := omega) only [w32_id, w64_id]; omega) | (simp (disch := omega) only [w32_id, w64_id] at *; omega) | (simp only [w32, w64] at *; omega) | exact (and32_le (by omega) (by omega)).1 | exact (and32_le (by omega) (by omega)).2 | exact (mulR (by omega) (by omega) (by omega) (by omega)).1 | exact (mulR (by omega) (by omega) (by omega) (by omega)).2 | (subst_vars; simp [upZ] at *; omega) | (subst_vars; simp [upZ] at *; simp only [w32, w64] at *; omega))⟩))
          | ((fail_if_success (first | (with_reducible show _ ≤ _) | (with_reducible show _ = _) | (with_reducible show _ ∨ _) | (with_reducible show _ < _) | (with_reducible show G _ _ _ _))); exact Exists.intro _ (Exists.intro _ ⟨rfl, rfl, by assumption, by assumption⟩))
          | ((fail_if_success (first | (with_reducible show _ ≤ _) | (with_reducible show _ = _) | (with_reducible show _ ∨ _) | (with_reducible show _ < _) | (with_reducible show G _ _ _ _))); exact Exists.intro _ ⟨rfl, rfl, by assumption, by assumption⟩)
          | ((fail_if_success (first | (with_reducible show _ ≤ _) | (with_reducible show _ = _) | (with_reducible show _ ∨ _) | (with_reducible show _ < _) | (with_reducible show G _ _ _ _))); exact Or.inl (Exists.intro _ ⟨rfl, rfl, by assumption, by assumption⟩))
          | ((fail_if_success (first | (with_reducible show _ ≤ _) | (with_reducible show _ = _) | (with_reducible show _ ∨ _) | (with_reducible show _ < _) | (with_reducible show G _ _ _ _))); exact Or.inr (Exists.intro _ ⟨rfl, rfl, by assumption, by assumption⟩))
          | omega
          | rfl
          | exact trivial
          | decide
          | (show (0 : Int) < _; omega)
          | (show (0 : Int) < _; simp only [w64] at *; omega)
          | (simp only [w32, w64] at *; omega)
          | (first | omega | (simp (disch := omega) only [w32_id, w64_id]; omega) | (simp (disch := omega) only [w32_id, w64_id] at *; omega) | (simp only [w32, w64] at *; omega) | exact (and32_le (by omega) (by omega)).1 | exact (and32_le (by omega) (by omega)).2 | exact (mulR (by omega) (by omega) (by omega) (by omega)).1 | exact (mulR (by omega) (by omega) (by omega) (by omega)).2 | (subst_vars; simp [upZ] at *; omega) | (subst_vars; simp [upZ] at *; simp only [w32, w64] at *; omega))
          | skip
  refine wq_run hG n R0 [4] 900 _ _ _ _ ?_
  repeat' (first
      | with_reducible rfl
      | refine And.intro ?_ ?_
      | with_reducible exact True.intro
      | ((with_reducible show _ = true); rfl)
      | ((with_reducible show recvG _ _); rfl)
      | ((with_reducible show CI _); first | with_reducible assumption | assumption)
      | (fail_if_success (first | (with_reducible show _ ≤ _) | (with_reducible show _ = _) | (with_reducible show _ ∨ _) | (with_reducible show _ < _) | (with_reducible show G _ _ _ _))
         first
         | show G _ _ _ _
         | (intro (Z2 : ZT) hZ2; have hZ3 : Z' = Z2 := hZ2.symm; subst hZ3)
         | (intro (Z2 : ZT) hZ2; have hZ3 : Z1 = Z2 := hZ2.symm; subst hZ3)
         | (intro (Z2 : ZT) hZ2; have hZ3 : Z = Z2 := hZ2.symm; subst hZ3)
         | (refine ld_bnd (by first | with_reducible assumption | assumption) rfl ?_; intro _ _ _ _)
         | (refine st_bnd (by first | with_reducible assumption | assumption) (by first | with_reducible assumption | assumption) (by decide) (fun lo hi hb => by first | (cases hb; done) | (cases hb; constructor <;> (first | omega | (simp (disch := omega) only [w32_id, w64_id]; omega) | (simp (disch := omega) only [w32_id, w64_id] at *; omega) | (simp only [w32, w64] at *; omega) | exact (and32_le (by omega) (by omega)).1 | exact (and32_le (by omega) (by omega)).2 | exact (mulR (by omega) (by omega) (by omega) (by omega)).1 | exact (mulR (by omega) (by omega) (by omega) (by omega)).2 | (subst_vars; simp [upZ] at *; omega) | (subst_vars; simp [upZ] at *; simp only [w32, w64] at *; omega)))) ?_; intro Z' _ _ _)
         | (intro (r : Option PV) σ' hq
            first
            | (obtain ⟨rfl, rfl⟩ := hq)
            | (obtain ⟨Z', x, rfl, rfl, hI2, hk2, hl2, hu2⟩ := hq; have hk3 := keeps_to (by first | with_reducible assumption | assumption) (by rfl) hk2; clear hk2)
            | (obtain ⟨Z', x, rfl, rfl, hI2, hk2⟩ := hq; have hk3 := keeps_to (by first | with_reducible assumption | assumption) (by rfl) hk2; clear hk2)
            | (rcases hq with ⟨Z', rfl, rfl, hI2, hk2⟩ | ⟨Z', rfl, rfl, hI2, hk2⟩ <;> (have hk3 := keeps_to (by first | with_reducible assumption | assumption) (by rfl) hk2; clear hk2))
            | (obtain ⟨Z', rfl, rfl, hI2, hk2⟩ := hq; have hk3 := keeps_to (by first | with_reducible assumption | assumption) (by rfl) hk2; clear hk2))
         | (intro hc; (try simp only [cmp3_c] at hc); simp only [cmpI] at hc)
         | (show CI _; assumption)
         | intro (_ : Int)
         | intro (Z' : ZT)
         | intro (_ : CI _)
         | intro (_ : keeps _ _ _)
         | intro (_ : _ ≤ _)
         | intro (_ : _ = _)
         | intro (_ : _ < _)
         | intro (_ : _ ∨ _)))
  all_goals (have lp4 := loop 1000000)
  all_goals first
    | with_reducible rfl
    | ((with_reducible show _ = _); rfl)
    | ((with_reducible show recvG _ _); rfl)
    | with_reducible exact trivial
    | ((fail_if_success (first | (with_reducible show _ ≤ _) | (with_reducible show _ = _) | (with_reducible show _ ∨ _) | (with_reducible show _ < _) | (with_reducible show G _ _ _ _))); (refine Exists.intro _ (And.intro rfl (And.intro rfl (And.intro ?_ ?_)))) <;> with_reducible assumption)
    | ((with_reducible show G 4 _ _ _); exact hG.2 4 _ [(0, vr 80), (1, vl _), (3, vi _)] _ _ rfl (lp4 _ _ _ (by assumption) (by assumption) (by refine ⟨by first | omega | (refine ⟨?_, ?_⟩ <;> (first | omega | (simp (disch := omega) only [w32_id, w64_id]; omega) | (simp (disch := omega) only [w32_id, w64_id] at *; omega) | (simp only [w32, w64] at *; omega) | exact (and32_le (by omega) (by omega)).1 | exact (and32_le (by omega) (by omega)).2 | exact (mulR (by omega) (by omega) (by omega) (by omega)).1 | exact (mulR (by omega) (by omega) (by omega) (by omega)).2 | (subst_vars; simp [upZ] at *; omega) | (subst_vars; simp [upZ] at *; simp only [w32, w64] at *; omega))) | (first | omega | (simp (disch := omega) only [w32_id, w64_id]; omega) | (simp (disch := omega) only [w32_id, w64_id] at *; omega) | (simp only [w32, w64] at *; omega) | exact (and32_le (by omega) (by omega)).1 | exact (and32_le (by omega) (by omega)).2 | exact (mulR (by omega) (by omega) (by omega) (by omega)).1 | exact (mulR (by omega) (by omega) (by omega) (by omega)).2 | (subst_vars; simp [upZ] at *; omega) | (subst_vars; simp [upZ] at *; simp only [w32, w64] at *; omega)), trivial⟩) (by first | omega | (simp (disch := omega) only [w32_id, w64_id]; omega) | (simp (disch := omega) only [w32_id, w64_id] at *; omega) | (simp only [w32, w64] at *; omega) | exact (and32_le (by omega) (by omega)).1 | exact (and32_le (by omega) (by omega)).2 | exact (mulR (by omega) (by omega) (by omega) (by omega)).1 | exact (mulR (by omega) (by omega) (by omega) (by omega)).2 | (subst_vars; simp [upZ] at *; omega) | (subst_vars; simp [upZ] at *; simp only [w32, w64] at *; omega))))
    | ((fail_if_success (first | (with_reducible show _ ≤ _) | (with_reducible show _ = _) | (with_reducible show _ ∨ _) | (with_reducible show _ < _) | (with_reducible show G _ _ _ _))); exact Exists.intro _ (Exists.intro _ ⟨rfl, rfl, by assumption, by assumption, by (first | omega | (simp (disch := omega) only [w32_id, w64_id]; omega) | (simp (disch := omega) only [w32_id, w64_id] at *; omega) | (simp only [w32, w64] at *; omega) | exact (and32_le (by omega) (by omega)).1 | exact (and32_le (by omega) (by omega)).2 | exact (mulR (by omega) (by omega) (by omega) (by omega)).1 | exact (mulR (by omega) (by omega) (by omega) (by omega)).2 | (subst_vars; simp [upZ] at *; omega) | (subst_vars; simp [upZ] at *; simp only [w32, w64] at *; omega)), by (first | omega | (simp (disch := omega) only [w32_id, w64_id]; omega) | (simp (disch := omega) only [w32_id, w64_id] at *; omega) | (simp only [w32, w64] at *; omega) | exact (and32_le (by omega) (by omega)).1 | exact (and32_le (by omega) (by omega)).2 | exact (mulR (by omega) (by omega) (by omega) (by omega)).1 | exact (mulR (by omega) (by omega) (by omega) (by omega)).2 | (subst_vars; simp [upZ] at *; omega) | (subst_vars; simp [upZ] at *; simp only [w32, w64] at *; omega))⟩))
    | ((fail_if_success (first | (with_reducible show _ ≤ _) | (with_reducible show _ = _) | (with_reducible show _ ∨ _) | (with_reducible show _ < _) | (with_reducible show G _ _ _ _))); exact Exists.intro _ (Exists.intro _ ⟨rfl, rfl, by assumption, by assumption⟩))
    | ((fail_if_success (first | (with_reducible show _ ≤ _) | (with_reducible show _ = _) | (with_reducible show _ ∨ _) | (with_reducible show _ < _) | (with_reducible show G _ _ _ _))); exact Exists.intro _ ⟨rfl, rfl, by assumption, by assumption⟩)
    | ((fail_if_success (first | (with_reducible show _ ≤ _) | (with_reducible show _ = _) | (with_reducible show _ ∨ _) | (with_reducible show _ < _) | (with_reducible show G _ _ _ _))); exact Or.inl (Exists.intro _ ⟨rfl, rfl, by assumption, by assumption⟩))
    | ((fail_if_success (first | (with_reducible show _ ≤ _) | (with_reducible show _ = _) | (with_reducible show _ ∨ _) | (with_reducible show _ < _) | (with_reducible show G _ _ _ _))); exact Or.inr (Exists.intro _ ⟨rfl, rfl, by assumption, by assumption⟩))
    | omega
    | rfl
    | exact trivial
    | decide
    | (show (0 : Int) < _; omega)
    | (show (0 : Int) < _; simp only [w64] at *; omega)
    | (simp only [w32, w64] at *; omega)
    | (first | omega | (simp (disch := omega) only [w32_id, w64_id]; omega) | (simp (disch := omega) only [w32_id, w64_id] at *; omega) | (simp only [w32, w64] at *; omega) | exact (and32_le (by omega) (by omega)).1 | exact (and32_le (by omega) (by omega)).2 | exact (mulR (by omega) (by omega) (by omega) (by omega)).1 | exact (mulR (by omega) (by omega) (by omega) (by omega)).2 | (subst_vars; simp [upZ] at *; omega) | (subst_vars; simp [upZ] at *; simp only [w32, w64] at *; omega))
    | skip
def s_X1_failing : Sp := wspU 3 1 (fun as Z => match as with
    | [.inr (.inr a0), .inr (.inr a1), .inr (.inr a2)] => ((a0 = 80)) ∧ ((a1 = 72)) ∧ ((a2 = 2)) ∧ True
    | _ => False) (fun as => match as with
    | [.inr (.inr a0), .inr (.inr a1), .inr (.inr a2)] => []
    | _ => [])
set_option maxRecDepth 100000 in
set_option maxHeartbeats 40000000 in
theorem c_X1_failing {l : Launch} {D : va_G} {cA : Nat → ClassId} : PM l D cA yX1_failing cX1_failing 5 (some .int) 3 75 s_X1_failing := by
  refine of_X1_failing (c_X0_rowSum) ⟨rfl, rfl⟩ (c_X0_columnSum) ⟨rfl, rfl⟩ (fun as σ hwf hao hpre => ?_)
  obtain ⟨n, Z, R⟩ := σ
  obtain ⟨hR, hI, hpre⟩ := hpre
  obtain rfl : R = R0 := hR
  rcases as with _ | ⟨x | x | a0, _ | ⟨x | x | a1, _ | ⟨x | x | a2, _ | ⟨v, t⟩⟩⟩⟩ <;> first | exact (hpre : False).elim | skip
  obtain ⟨h0, h1, h2, -⟩ := hpre
  have hk : keeps ([]) Z Z := keeps_refl
  refine ⟨Nat.le_of_ble_eq_true rfl, fun G hG => ?_⟩
  clear hao hwf
  obtain rfl := h0
  obtain rfl := h1
  obtain rfl := h2
  have loop : ∀ fuel : Nat, (∀ (Z1 : ZT) (v3 : Int) (v4 : Int), CI Z1 → keeps ([]) Z Z1 → ((0 ≤ v4 ∧ v4 ≤ 6) ∧ True) → 1000 - v4 ≤ (fuel : Int) → G 5 [(0, vr 80), (1, vr 72), (2, vr 2), (3, vi v3), (4, vi v4)] [] (n, Z1, R0)) ∧ (∀ (Z1 : ZT) (v3 : Int) (v4 : Int), CI Z1 → keeps ([]) Z Z1 → ((0 ≤ v4 ∧ v4 ≤ 6) ∧ True) → 100 - v4 ≤ (fuel : Int) → G 77 [(0, vr 80), (1, vr 72), (2, vr 2), (3, vi v3), (4, vi v4)] [] (n, Z1, R0)) := by
    intro fuel
    induction fuel with
    | zero => exact ⟨(by intros; omega), (by intros; omega)⟩
    | succ fuel ih =>
      obtain ⟨ih5, ih77⟩ := ih
      refine ⟨?_, ?_⟩
      · intro Z1 v3 v4 hI1 hk1 hv hm
        obtain ⟨w0, -⟩ := hv
        clear hk hI
        refine wq_run hG n R0 [5, 77] 900 _ _ _ _ ?_
        repeat' (first
            | with_reducible rfl
            | refine And.intro ?_ ?_
            | with_reducible exact True.intro
            | ((with_reducible show _ = true); rfl)
            | ((with_reducible show recvG _ _); rfl)
            | ((with_reducible show CI _); first | with_reducible assumption | assumption)
            | (fail_if_success (first | (with_reducible show _ ≤ _) | (with_reducible show _ = _) | (with_reducible show _ ∨ _) | (with_reducible show _ < _) | (with_reducible show G _ _ _ _))
               first
               | show G _ _ _ _
               | (intro (Z2 : ZT) hZ2; have hZ3 : Z' = Z2 := hZ2.symm; subst hZ3)
               | (intro (Z2 : ZT) hZ2; have hZ3 : Z1 = Z2 := hZ2.symm; subst hZ3)
               | (intro (Z2 : ZT) hZ2; have hZ3 : Z = Z2 := hZ2.symm; subst hZ3)
               | (refine ld_bnd (by first | with_reducible assumption | assumption) rfl ?_; intro _ _ _ _)
               | (refine st_bnd (by first | with_reducible assumption | assumption) (by first | with_reducible assumption | assumption) (by decide) (fun lo hi hb => by first | (cases hb; done) | (cases hb; constructor <;> (first | omega | (simp (disch := omega) only [w32_id, w64_id]; omega) | (simp (disch := omega) only [w32_id, w64_id] at *; omega) | (simp only [w32, w64] at *; omega) | exact (and32_le (by omega) (by omega)).1 | exact (and32_le (by omega) (by omega)).2 | exact (mulR (by omega) (by omega) (by omega) (by omega)).1 | exact (mulR (by omega) (by omega) (by omega) (by omega)).2 | (subst_vars; simp [upZ] at *; omega) | (subst_vars; simp [upZ] at *; simp only [w32, w64] at *; omega)))) ?_; intro Z' _ _ _)
               | (intro (r : Option PV) σ' hq
                  first
                  | (obtain ⟨rfl, rfl⟩ := hq)
                  | (obtain ⟨Z', x, rfl, rfl, hI2, hk2, hl2, hu2⟩ := hq; have hk3 := keeps_to (by first | with_reducible assumption | assumption) (by rfl) hk2; clear hk2)
                  | (obtain ⟨Z', x, rfl, rfl, hI2, hk2⟩ := hq; have hk3 := keeps_to (by first | with_reducible assumption | assumption) (by rfl) hk2; clear hk2)
                  | (rcases hq with ⟨Z', rfl, rfl, hI2, hk2⟩ | ⟨Z', rfl, rfl, hI2, hk2⟩ <;> (have hk3 := keeps_to (by first | with_reducible assumption | assumption) (by rfl) hk2; clear hk2))
                  | (obtain ⟨Z', rfl, rfl, hI2, hk2⟩ := hq; have hk3 := keeps_to (by first | with_reducible assumption | assumption) (by rfl) hk2; clear hk2))
               | (intro hc; (try simp only [cmp3_c] at hc); simp only [cmpI] at hc)
               | (show CI _; assumption)
               | intro (_ : Int)
               | intro (Z' : ZT)
               | intro (_ : CI _)
               | intro (_ : keeps _ _ _)
               | intro (_ : _ ≤ _)
               | intro (_ : _ = _)
               | intro (_ : _ < _)
               | intro (_ : _ ∨ _)))
        all_goals first
          | with_reducible rfl
          | ((with_reducible show _ = _); rfl)
          | ((with_reducible show recvG _ _); rfl)
          | with_reducible exact trivial
          | ((fail_if_success (first | (with_reducible show _ ≤ _) | (with_reducible show _ = _) | (with_reducible show _ ∨ _) | (with_reducible show _ < _) | (with_reducible show G _ _ _ _))); (refine Exists.intro _ (And.intro rfl (And.intro rfl (And.intro ?_ ?_)))) <;> with_reducible assumption)
          | ((with_reducible show G 5 _ _ _); exact hG.2 5 _ [(0, vr 80), (1, vr 72), (2, vr 2), (3, vi _), (4, vi _)] _ _ rfl (ih5 _ _ _ (by assumption) (by assumption) (by refine ⟨by first | omega | (refine ⟨?_, ?_⟩ <;> (first | omega | (simp (disch := omega) only [w32_id, w64_id]; omega) | (simp (disch := omega) only [w32_id, w64_id] at *; omega) | (simp only [w32, w64] at *; omega) | exact (and32_le (by omega) (by omega)).1 | exact (and32_le (by omega) (by omega)).2 | exact (mulR (by omega) (by omega) (by omega) (by omega)).1 | exact (mulR (by omega) (by omega) (by omega) (by omega)).2 | (subst_vars; simp [upZ] at *; omega) | (subst_vars; simp [upZ] at *; simp only [w32, w64] at *; omega))) | (first | omega | (simp (disch := omega) only [w32_id, w64_id]; omega) | (simp (disch := omega) only [w32_id, w64_id] at *; omega) | (simp only [w32, w64] at *; omega) | exact (and32_le (by omega) (by omega)).1 | exact (and32_le (by omega) (by omega)).2 | exact (mulR (by omega) (by omega) (by omega) (by omega)).1 | exact (mulR (by omega) (by omega) (by omega) (by omega)).2 | (subst_vars; simp [upZ] at *; omega) | (subst_vars; simp [upZ] at *; simp only [w32, w64] at *; omega)), trivial⟩) (by first | omega | (simp (disch := omega) only [w32_id, w64_id]; omega) | (simp (disch := omega) only [w32_id, w64_id] at *; omega) | (simp only [w32, w64] at *; omega) | exact (and32_le (by omega) (by omega)).1 | exact (and32_le (by omega) (by omega)).2 | exact (mulR (by omega) (by omega) (by omega) (by omega)).1 | exact (mulR (by omega) (by omega) (by omega) (by omega)).2 | (subst_vars; simp [upZ] at *; omega) | (subst_vars; simp [upZ] at *; simp only [w32, w64] at *; omega))))
          | ((with_reducible show G 77 _ _ _); exact hG.2 77 _ [(0, vr 80), (1, vr 72), (2, vr 2), (3, vi _), (4, vi _)] _ _ rfl (ih77 _ _ _ (by assumption) (by assumption) (by refine ⟨by first | omega | (refine ⟨?_, ?_⟩ <;> (first | omega | (simp (disch := omega) only [w32_id, w64_id]; omega) | (simp (disch := omega) only [w32_id, w64_id] at *; omega) | (simp only [w32, w64] at *; omega) | exact (and32_le (by omega) (by omega)).1 | exact (and32_le (by omega) (by omega)).2 | exact (mulR (by omega) (by omega) (by omega) (by omega)).1 | exact (mulR (by omega) (by omega) (by omega) (by omega)).2 | (subst_vars; simp [upZ] at *; omega) | (subst_vars; simp [upZ] at *; simp only [w32, w64] at *; omega))) | (first | omega | (simp (disch := omega) only [w32_id, w64_id]; omega) | (simp (disch := omega) only [w32_id, w64_id] at *; omega) | (simp only [w32, w64] at *; omega) | exact (and32_le (by omega) (by omega)).1 | exact (and32_le (by omega) (by omega)).2 | exact (mulR (by omega) (by omega) (by omega) (by omega)).1 | exact (mulR (by omega) (by omega) (by omega) (by omega)).2 | (subst_vars; simp [upZ] at *; omega) | (subst_vars; simp [upZ] at *; simp only [w32, w64] at *; omega)), trivial⟩) (by first | omega | (simp (disch := omega) only [w32_id, w64_id]; omega) | (simp (disch := omega) only [w32_id, w64_id] at *; omega) | (simp only [w32, w64] at *; omega) | exact (and32_le (by omega) (by omega)).1 | exact (and32_le (by omega) (by omega)).2 | exact (mulR (by omega) (by omega) (by omega) (by omega)).1 | exact (mulR (by omega) (by omega) (by omega) (by omega)).2 | (subst_vars; simp [upZ] at *; omega) | (subst_vars; simp [upZ] at *; simp only [w32, w64] at *; omega))))
          | ((fail_if_success (first | (with_reducible show _ ≤ _) | (with_reducible show _ = _) | (with_reducible show _ ∨ _) | (with_reducible show _ < _) | (with_reducible show G _ _ _ _))); exact Exists.intro _ (Exists.intro _ ⟨rfl, rfl, by assumption, by assumption, by (first | omega | (simp (disch := omega) only [w32_id, w64_id]; omega) | (simp (disch := omega) only [w32_id, w64_id] at *; omega) | (simp only [w32, w64] at *; omega) | exact (and32_le (by omega) (by omega)).1 | exact (and32_le (by omega) (by omega)).2 | exact (mulR (by omega) (by omega) (by omega) (by omega)).1 | exact (mulR (by omega) (by omega) (by omega) (by omega)).2 | (subst_vars; simp [upZ] at *; omega) | (subst_vars; simp [upZ] at *; simp only [w32, w64] at *; omega)), by (first | omega | (simp (disch := omega) only [w32_id, w64_id]; omega) | (simp (disch := omega) only [w32_id, w64_id] at *; omega) | (simp only [w32, w64] at *; omega) | exact (and32_le (by omega) (by omega)).1 | exact (and32_le (by omega) (by omega)).2 | exact (mulR (by omega) (by omega) (by omega) (by omega)).1 | exact (mulR (by omega) (by omega) (by omega) (by omega)).2 | (subst_vars; simp [upZ] at *; omega) | (subst_vars; simp [upZ] at *; simp only [w32, w64] at *; omega))⟩))
          | ((fail_if_success (first | (with_reducible show _ ≤ _) | (with_reducible show _ = _) | (with_reducible show _ ∨ _) | (with_reducible show _ < _) | (with_reducible show G _ _ _ _))); exact Exists.intro _ (Exists.intro _ ⟨rfl, rfl, by assumption, by assumption⟩))
          | ((fail_if_success (first | (with_reducible show _ ≤ _) | (with_reducible show _ = _) | (with_reducible show _ ∨ _) | (with_reducible show _ < _) | (with_reducible show G _ _ _ _))); exact Exists.intro _ ⟨rfl, rfl, by assumption, by assumption⟩)
          | ((fail_if_success (first | (with_reducible show _ ≤ _) | (with_reducible show _ = _) | (with_reducible show _ ∨ _) | (with_reducible show _ < _) | (with_reducible show G _ _ _ _))); exact Or.inl (Exists.intro _ ⟨rfl, rfl, by assumption, by assumption⟩))
          | ((fail_if_success (first | (with_reducible show _ ≤ _) | (with_reducible show _ = _) | (with_reducible show _ ∨ _) | (with_reducible show _ < _) | (with_reducible show G _ _ _ _))); exact Or.inr (Exists.intro _ ⟨rfl, rfl, by assumption, by assumption⟩))
          | omega
          | rfl
          | exact trivial
          | decide
          | (show (0 : Int) < _; omega)
          | (show (0 : Int) < _; simp only [w64] at *; omega)
          | (simp only [w32, w64] at *; omega)
          | (first | omega | (simp (disch := omega) only [w32_id, w64_id]; omega) | (simp (disch := omega) only [w32_id, w64_id] at *; omega) | (simp only [w32, w64] at *; omega) | exact (and32_le (by omega) (by omega)).1 | exact (and32_le (by omega) (by omega)).2 | exact (mulR (by omega) (by omega) (by omega) (by omega)).1 | exact (mulR (by omega) (by omega) (by omega) (by omega)).2 | (subst_vars; simp [upZ] at *; omega) | (subst_vars; simp [upZ] at *; simp only [w32, w64] at *; omega))
          | skip
      · intro Z1 v3 v4 hI1 hk1 hv hm
        obtain ⟨w0, -⟩ := hv
        clear hk hI
        refine wq_run hG n R0 [5, 77] 900 _ _ _ _ ?_
        repeat' (first
            | with_reducible rfl
            | refine And.intro ?_ ?_
            | with_reducible exact True.intro
            | ((with_reducible show _ = true); rfl)
            | ((with_reducible show recvG _ _); rfl)
            | ((with_reducible show CI _); first | with_reducible assumption | assumption)
            | (fail_if_success (first | (with_reducible show _ ≤ _) | (with_reducible show _ = _) | (with_reducible show _ ∨ _) | (with_reducible show _ < _) | (with_reducible show G _ _ _ _))
               first
               | show G _ _ _ _
               | (intro (Z2 : ZT) hZ2; have hZ3 : Z' = Z2 := hZ2.symm; subst hZ3)
               | (intro (Z2 : ZT) hZ2; have hZ3 : Z1 = Z2 := hZ2.symm; subst hZ3)
               | (intro (Z2 : ZT) hZ2; have hZ3 : Z = Z2 := hZ2.symm; subst hZ3)
               | (refine ld_bnd (by first | with_reducible assumption | assumption) rfl ?_; intro _ _ _ _)
               | (refine st_bnd (by first | with_reducible assumption | assumption) (by first | with_reducible assumption | assumption) (by decide) (fun lo hi hb => by first | (cases hb; done) | (cases hb; constructor <;> (first | omega | (simp (disch := omega) only [w32_id, w64_id]; omega) | (simp (disch := omega) only [w32_id, w64_id] at *; omega) | (simp only [w32, w64] at *; omega) | exact (and32_le (by omega) (by omega)).1 | exact (and32_le (by omega) (by omega)).2 | exact (mulR (by omega) (by omega) (by omega) (by omega)).1 | exact (mulR (by omega) (by omega) (by omega) (by omega)).2 | (subst_vars; simp [upZ] at *; omega) | (subst_vars; simp [upZ] at *; simp only [w32, w64] at *; omega)))) ?_; intro Z' _ _ _)
               | (intro (r : Option PV) σ' hq
                  first
                  | (obtain ⟨rfl, rfl⟩ := hq)
                  | (obtain ⟨Z', x, rfl, rfl, hI2, hk2, hl2, hu2⟩ := hq; have hk3 := keeps_to (by first | with_reducible assumption | assumption) (by rfl) hk2; clear hk2)
                  | (obtain ⟨Z', x, rfl, rfl, hI2, hk2⟩ := hq; have hk3 := keeps_to (by first | with_reducible assumption | assumption) (by rfl) hk2; clear hk2)
                  | (rcases hq with ⟨Z', rfl, rfl, hI2, hk2⟩ | ⟨Z', rfl, rfl, hI2, hk2⟩ <;> (have hk3 := keeps_to (by first | with_reducible assumption | assumption) (by rfl) hk2; clear hk2))
                  | (obtain ⟨Z', rfl, rfl, hI2, hk2⟩ := hq; have hk3 := keeps_to (by first | with_reducible assumption | assumption) (by rfl) hk2; clear hk2))
               | (intro hc; (try simp only [cmp3_c] at hc); simp only [cmpI] at hc)
               | (show CI _; assumption)
               | intro (_ : Int)
               | intro (Z' : ZT)
               | intro (_ : CI _)
               | intro (_ : keeps _ _ _)
               | intro (_ : _ ≤ _)
               | intro (_ : _ = _)
               | intro (_ : _ < _)
               | intro (_ : _ ∨ _)))
        all_goals first
          | with_reducible rfl
          | ((with_reducible show _ = _); rfl)
          | ((with_reducible show recvG _ _); rfl)
          | with_reducible exact trivial
          | ((fail_if_success (first | (with_reducible show _ ≤ _) | (with_reducible show _ = _) | (with_reducible show _ ∨ _) | (with_reducible show _ < _) | (with_reducible show G _ _ _ _))); (refine Exists.intro _ (And.intro rfl (And.intro rfl (And.intro ?_ ?_)))) <;> with_reducible assumption)
          | ((with_reducible show G 5 _ _ _); exact hG.2 5 _ [(0, vr 80), (1, vr 72), (2, vr 2), (3, vi _), (4, vi _)] _ _ rfl (ih5 _ _ _ (by assumption) (by assumption) (by refine ⟨by first | omega | (refine ⟨?_, ?_⟩ <;> (first | omega | (simp (disch := omega) only [w32_id, w64_id]; omega) | (simp (disch := omega) only [w32_id, w64_id] at *; omega) | (simp only [w32, w64] at *; omega) | exact (and32_le (by omega) (by omega)).1 | exact (and32_le (by omega) (by omega)).2 | exact (mulR (by omega) (by omega) (by omega) (by omega)).1 | exact (mulR (by omega) (by omega) (by omega) (by omega)).2 | (subst_vars; simp [upZ] at *; omega) | (subst_vars; simp [upZ] at *; simp only [w32, w64] at *; omega))) | (first | omega | (simp (disch := omega) only [w32_id, w64_id]; omega) | (simp (disch := omega) only [w32_id, w64_id] at *; omega) | (simp only [w32, w64] at *; omega) | exact (and32_le (by omega) (by omega)).1 | exact (and32_le (by omega) (by omega)).2 | exact (mulR (by omega) (by omega) (by omega) (by omega)).1 | exact (mulR (by omega) (by omega) (by omega) (by omega)).2 | (subst_vars; simp [upZ] at *; omega) | (subst_vars; simp [upZ] at *; simp only [w32, w64] at *; omega)), trivial⟩) (by first | omega | (simp (disch := omega) only [w32_id, w64_id]; omega) | (simp (disch := omega) only [w32_id, w64_id] at *; omega) | (simp only [w32, w64] at *; omega) | exact (and32_le (by omega) (by omega)).1 | exact (and32_le (by omega) (by omega)).2 | exact (mulR (by omega) (by omega) (by omega) (by omega)).1 | exact (mulR (by omega) (by omega) (by omega) (by omega)).2 | (subst_vars; simp [upZ] at *; omega) | (subst_vars; simp [upZ] at *; simp only [w32, w64] at *; omega))))
          | ((with_reducible show G 77 _ _ _); exact hG.2 77 _ [(0, vr 80), (1, vr 72), (2, vr 2), (3, vi _), (4, vi _)] _ _ rfl (ih77 _ _ _ (by assumption) (by assumption) (by refine ⟨by first | omega | (refine ⟨?_, ?_⟩ <;> (first | omega | (simp (disch := omega) only [w32_id, w64_id]; omega) | (simp (disch := omega) only [w32_id, w64_id] at *; omega) | (simp only [w32, w64] at *; omega) | exact (and32_le (by omega) (by omega)).1 | exact (and32_le (by omega) (by omega)).2 | exact (mulR (by omega) (by omega) (by omega) (by omega)).1 | exact (mulR (by omega) (by omega) (by omega) (by omega)).2 | (subst_vars; simp [upZ] at *; omega) | (subst_vars; simp [upZ] at *; simp only [w32, w64] at *; omega))) | (first | omega | (simp (disch := omega) only [w32_id, w64_id]; omega) | (simp (disch := omega) only [w32_id, w64_id] at *; omega) | (simp only [w32, w64] at *; omega) | exact (and32_le (by omega) (by omega)).1 | exact (and32_le (by omega) (by omega)).2 | exact (mulR (by omega) (by omega) (by omega) (by omega)).1 | exact (mulR (by omega) (by omega) (by omega) (by omega)).2 | (subst_vars; simp [upZ] at *; omega) | (subst_vars; simp [upZ] at *; simp only [w32, w64] at *; omega)), trivial⟩) (by first | omega | (simp (disch := omega) only [w32_id, w64_id]; omega) | (simp (disch := omega) only [w32_id, w64_id] at *; omega) | (simp only [w32, w64] at *; omega) | exact (and32_le (by omega) (by omega)).1 | exact (and32_le (by omega) (by omega)).2 | exact (mulR (by omega) (by omega) (by omega) (by omega)).1 | exact (mulR (by omega) (by omega) (by omega) (by omega)).2 | (subst_vars; simp [upZ] at *; omega) | (subst_vars; simp [upZ] at *; simp only [w32, w64] at *; omega))))
          | ((fail_if_success (first | (with_reducible show _ ≤ _) | (with_reducible show _ = _) | (with_reducible show _ ∨ _) | (with_reducible show _ < _) | (with_reducible show G _ _ _ _))); exact Exists.intro _ (Exists.intro _ ⟨rfl, rfl, by assumption, by assumption, by (first | omega | (simp (disch := omega) only [w32_id, w64_id]; omega) | (simp (disch := omega) only [w32_id, w64_id] at *; omega) | (simp only [w32, w64] at *; omega) | exact (and32_le (by omega) (by omega)).1 | exact (and32_le (by omega) (by omega)).2 | exact (mulR (by omega) (by omega) (by omega) (by omega)).1 | exact (mulR (by omega) (by omega) (by omega) (by omega)).2 | (subst_vars; simp [upZ] at *; omega) | (subst_vars; simp [upZ] at *; simp only [w32, w64] at *; omega)), by (first | omega | (simp (disch := omega) only [w32_id, w64_id]; omega) | (simp (disch := omega) only [w32_id, w64_id] at *; omega) | (simp only [w32, w64] at *; omega) | exact (and32_le (by omega) (by omega)).1 | exact (and32_le (by omega) (by omega)).2 | exact (mulR (by omega) (by omega) (by omega) (by omega)).1 | exact (mulR (by omega) (by omega) (by omega) (by omega)).2 | (subst_vars; simp [upZ] at *; omega) | (subst_vars; simp [upZ] at *; simp only [w32, w64] at *; omega))⟩))
          | ((fail_if_success (first | (with_reducible show _ ≤ _) | (with_reducible show _ = _) | (with_reducible show _ ∨ _) | (with_reducible show _ < _) | (with_reducible show G _ _ _ _))); exact Exists.intro _ (Exists.intro _ ⟨rfl, rfl, by assumption, by assumption⟩))
          | ((fail_if_success (first | (with_reducible show _ ≤ _) | (with_reducible show _ = _) | (with_reducible show _ ∨ _) | (with_reducible show _ < _) | (with_reducible show G _ _ _ _))); exact Exists.intro _ ⟨rfl, rfl, by assumption, by assumption⟩)
          | ((fail_if_success (first | (with_reducible show _ ≤ _) | (with_reducible show _ = _) | (with_reducible show _ ∨ _) | (with_reducible show _ < _) | (with_reducible show G _ _ _ _))); exact Or.inl (Exists.intro _ ⟨rfl, rfl, by assumption, by assumption⟩))
          | ((fail_if_success (first | (with_reducible show _ ≤ _) | (with_reducible show _ = _) | (with_reducible show _ ∨ _) | (with_reducible show _ < _) | (with_reducible show G _ _ _ _))); exact Or.inr (Exists.intro _ ⟨rfl, rfl, by assumption, by assumption⟩))
          | omega
          | rfl
          | exact trivial
          | decide
          | (show (0 : Int) < _; omega)
          | (show (0 : Int) < _; simp only [w64] at *; omega)
          | (simp only [w32, w64] at *; omega)
          | (first | omega | (simp (disch := omega) only [w32_id, w64_id]; omega) | (simp (disch := omega) only [w32_id, w64_id] at *; omega) | (simp only [w32, w64] at *; omega) | exact (and32_le (by omega) (by omega)).1 | exact (and32_le (by omega) (by omega)).2 | exact (mulR (by omega) (by omega) (by omega) (by omega)).1 | exact (mulR (by omega) (by omega) (by omega) (by omega)).2 | (subst_vars; simp [upZ] at *; omega) | (subst_vars; simp [upZ] at *; simp only [w32, w64] at *; omega))
          | skip
  refine wq_run hG n R0 [5, 77] 900 _ _ _ _ ?_
  repeat' (first
      | with_reducible rfl
      | refine And.intro ?_ ?_
      | with_reducible exact True.intro
      | ((with_reducible show _ = true); rfl)
      | ((with_reducible show recvG _ _); rfl)
      | ((with_reducible show CI _); first | with_reducible assumption | assumption)
      | (fail_if_success (first | (with_reducible show _ ≤ _) | (with_reducible show _ = _) | (with_reducible show _ ∨ _) | (with_reducible show _ < _) | (with_reducible show G _ _ _ _))
         first
         | show G _ _ _ _
         | (intro (Z2 : ZT) hZ2; have hZ3 : Z' = Z2 := hZ2.symm; subst hZ3)
         | (intro (Z2 : ZT) hZ2; have hZ3 : Z1 = Z2 := hZ2.symm; subst hZ3)
         | (intro (Z2 : ZT) hZ2; have hZ3 : Z = Z2 := hZ2.symm; subst hZ3)
         | (refine ld_bnd (by first | with_reducible assumption | assumption) rfl ?_; intro _ _ _ _)
         | (refine st_bnd (by first | with_reducible assumption | assumption) (by first | with_reducible assumption | assumption) (by decide) (fun lo hi hb => by first | (cases hb; done) | (cases hb; constructor <;> (first | omega | (simp (disch := omega) only [w32_id, w64_id]; omega) | (simp (disch := omega) only [w32_id, w64_id] at *; omega) | (simp only [w32, w64] at *; omega) | exact (and32_le (by omega) (by omega)).1 | exact (and32_le (by omega) (by omega)).2 | exact (mulR (by omega) (by omega) (by omega) (by omega)).1 | exact (mulR (by omega) (by omega) (by omega) (by omega)).2 | (subst_vars; simp [upZ] at *; omega) | (subst_vars; simp [upZ] at *; simp only [w32, w64] at *; omega)))) ?_; intro Z' _ _ _)
         | (intro (r : Option PV) σ' hq
            first
            | (obtain ⟨rfl, rfl⟩ := hq)
            | (obtain ⟨Z', x, rfl, rfl, hI2, hk2, hl2, hu2⟩ := hq; have hk3 := keeps_to (by first | with_reducible assumption | assumption) (by rfl) hk2; clear hk2)
            | (obtain ⟨Z', x, rfl, rfl, hI2, hk2⟩ := hq; have hk3 := keeps_to (by first | with_reducible assumption | assumption) (by rfl) hk2; clear hk2)
            | (rcases hq with ⟨Z', rfl, rfl, hI2, hk2⟩ | ⟨Z', rfl, rfl, hI2, hk2⟩ <;> (have hk3 := keeps_to (by first | with_reducible assumption | assumption) (by rfl) hk2; clear hk2))
            | (obtain ⟨Z', rfl, rfl, hI2, hk2⟩ := hq; have hk3 := keeps_to (by first | with_reducible assumption | assumption) (by rfl) hk2; clear hk2))
         | (intro hc; (try simp only [cmp3_c] at hc); simp only [cmpI] at hc)
         | (show CI _; assumption)
         | intro (_ : Int)
         | intro (Z' : ZT)
         | intro (_ : CI _)
         | intro (_ : keeps _ _ _)
         | intro (_ : _ ≤ _)
         | intro (_ : _ = _)
         | intro (_ : _ < _)
         | intro (_ : _ ∨ _)))
  all_goals (try obtain ⟨lp5, lp77⟩ := loop 1000000)
  all_goals first
    | with_reducible rfl
    | ((with_reducible show _ = _); rfl)
    | ((with_reducible show recvG _ _); rfl)
    | with_reducible exact trivial
    | ((fail_if_success (first | (with_reducible show _ ≤ _) | (with_reducible show _ = _) | (with_reducible show _ ∨ _) | (with_reducible show _ < _) | (with_reducible show G _ _ _ _))); (refine Exists.intro _ (And.intro rfl (And.intro rfl (And.intro ?_ ?_)))) <;> with_reducible assumption)
    | ((with_reducible show G 5 _ _ _); exact hG.2 5 _ [(0, vr 80), (1, vr 72), (2, vr 2), (3, vi _), (4, vi _)] _ _ rfl (lp5 _ _ _ (by assumption) (by assumption) (by refine ⟨by first | omega | (refine ⟨?_, ?_⟩ <;> (first | omega | (simp (disch := omega) only [w32_id, w64_id]; omega) | (simp (disch := omega) only [w32_id, w64_id] at *; omega) | (simp only [w32, w64] at *; omega) | exact (and32_le (by omega) (by omega)).1 | exact (and32_le (by omega) (by omega)).2 | exact (mulR (by omega) (by omega) (by omega) (by omega)).1 | exact (mulR (by omega) (by omega) (by omega) (by omega)).2 | (subst_vars; simp [upZ] at *; omega) | (subst_vars; simp [upZ] at *; simp only [w32, w64] at *; omega))) | (first | omega | (simp (disch := omega) only [w32_id, w64_id]; omega) | (simp (disch := omega) only [w32_id, w64_id] at *; omega) | (simp only [w32, w64] at *; omega) | exact (and32_le (by omega) (by omega)).1 | exact (and32_le (by omega) (by omega)).2 | exact (mulR (by omega) (by omega) (by omega) (by omega)).1 | exact (mulR (by omega) (by omega) (by omega) (by omega)).2 | (subst_vars; simp [upZ] at *; omega) | (subst_vars; simp [upZ] at *; simp only [w32, w64] at *; omega)), trivial⟩) (by first | omega | (simp (disch := omega) only [w32_id, w64_id]; omega) | (simp (disch := omega) only [w32_id, w64_id] at *; omega) | (simp only [w32, w64] at *; omega) | exact (and32_le (by omega) (by omega)).1 | exact (and32_le (by omega) (by omega)).2 | exact (mulR (by omega) (by omega) (by omega) (by omega)).1 | exact (mulR (by omega) (by omega) (by omega) (by omega)).2 | (subst_vars; simp [upZ] at *; omega) | (subst_vars; simp [upZ] at *; simp only [w32, w64] at *; omega))))
    | ((with_reducible show G 77 _ _ _); exact hG.2 77 _ [(0, vr 80), (1, vr 72), (2, vr 2), (3, vi _), (4, vi _)] _ _ rfl (lp77 _ _ _ (by assumption) (by assumption) (by refine ⟨by first | omega | (refine ⟨?_, ?_⟩ <;> (first | omega | (simp (disch := omega) only [w32_id, w64_id]; omega) | (simp (disch := omega) only [w32_id, w64_id] at *; omega) | (simp only [w32, w64] at *; omega) | exact (and32_le (by omega) (by omega)).1 | exact (and32_le (by omega) (by omega)).2 | exact (mulR (by omega) (by omega) (by omega) (by omega)).1 | exact (mulR (by omega) (by omega) (by omega) (by omega)).2 | (subst_vars; simp [upZ] at *; omega) | (subst_vars; simp [upZ] at *; simp only [w32, w64] at *; omega))) | (first | omega | (simp (disch := omega) only [w32_id, w64_id]; omega) | (simp (disch := omega) only [w32_id, w64_id] at *; omega) | (simp only [w32, w64] at *; omega) | exact (and32_le (by omega) (by omega)).1 | exact (and32_le (by omega) (by omega)).2 | exact (mulR (by omega) (by omega) (by omega) (by omega)).1 | exact (mulR (by omega) (by omega) (by omega) (by omega)).2 | (subst_vars; simp [upZ] at *; omega) | (subst_vars; simp [upZ] at *; simp only [w32, w64] at *; omega)), trivial⟩) (by first | omega | (simp (disch := omega) only [w32_id, w64_id]; omega) | (simp (disch := omega) only [w32_id, w64_id] at *; omega) | (simp only [w32, w64] at *; omega) | exact (and32_le (by omega) (by omega)).1 | exact (and32_le (by omega) (by omega)).2 | exact (mulR (by omega) (by omega) (by omega) (by omega)).1 | exact (mulR (by omega) (by omega) (by omega) (by omega)).2 | (subst_vars; simp [upZ] at *; omega) | (subst_vars; simp [upZ] at *; simp only [w32, w64] at *; omega))))
    | ((fail_if_success (first | (with_reducible show _ ≤ _) | (with_reducible show _ = _) | (with_reducible show _ ∨ _) | (with_reducible show _ < _) | (with_reducible show G _ _ _ _))); exact Exists.intro _ (Exists.intro _ ⟨rfl, rfl, by assumption, by assumption, by (first | omega | (simp (disch := omega) only [w32_id, w64_id]; omega) | (simp (disch := omega) only [w32_id, w64_id] at *; omega) | (simp only [w32, w64] at *; omega) | exact (and32_le (by omega) (by omega)).1 | exact (and32_le (by omega) (by omega)).2 | exact (mulR (by omega) (by omega) (by omega) (by omega)).1 | exact (mulR (by omega) (by omega) (by omega) (by omega)).2 | (subst_vars; simp [upZ] at *; omega) | (subst_vars; simp [upZ] at *; simp only [w32, w64] at *; omega)), by (first | omega | (simp (disch := omega) only [w32_id, w64_id]; omega) | (simp (disch := omega) only [w32_id, w64_id] at *; omega) | (simp only [w32, w64] at *; omega) | exact (and32_le (by omega) (by omega)).1 | exact (and32_le (by omega) (by omega)).2 | exact (mulR (by omega) (by omega) (by omega) (by omega)).1 | exact (mulR (by omega) (by omega) (by omega) (by omega)).2 | (subst_vars; simp [upZ] at *; omega) | (subst_vars; simp [upZ] at *; simp only [w32, w64] at *; omega))⟩))
    | ((fail_if_success (first | (with_reducible show _ ≤ _) | (with_reducible show _ = _) | (with_reducible show _ ∨ _) | (with_reducible show _ < _) | (with_reducible show G _ _ _ _))); exact Exists.intro _ (Exists.intro _ ⟨rfl, rfl, by assumption, by assumption⟩))
    | ((fail_if_success (first | (with_reducible show _ ≤ _) | (with_reducible show _ = _) | (with_reducible show _ ∨ _) | (with_reducible show _ < _) | (with_reducible show G _ _ _ _))); exact Exists.intro _ ⟨rfl, rfl, by assumption, by assumption⟩)
    | ((fail_if_success (first | (with_reducible show _ ≤ _) | (with_reducible show _ = _) | (with_reducible show _ ∨ _) | (with_reducible show _ < _) | (with_reducible show G _ _ _ _))); exact Or.inl (Exists.intro _ ⟨rfl, rfl, by assumption, by assumption⟩))
    | ((fail_if_success (first | (with_reducible show _ ≤ _) | (with_reducible show _ = _) | (with_reducible show _ ∨ _) | (with_reducible show _ < _) | (with_reducible show G _ _ _ _))); exact Or.inr (Exists.intro _ ⟨rfl, rfl, by assumption, by assumption⟩))
    | omega
    | rfl
    | exact trivial
    | decide
    | (show (0 : Int) < _; omega)
    | (show (0 : Int) < _; simp only [w64] at *; omega)
    | (simp only [w32, w64] at *; omega)
    | (first | omega | (simp (disch := omega) only [w32_id, w64_id]; omega) | (simp (disch := omega) only [w32_id, w64_id] at *; omega) | (simp only [w32, w64] at *; omega) | exact (and32_le (by omega) (by omega)).1 | exact (and32_le (by omega) (by omega)).2 | exact (mulR (by omega) (by omega) (by omega) (by omega)).1 | exact (mulR (by omega) (by omega) (by omega) (by omega)).2 | (subst_vars; simp [upZ] at *; omega) | (subst_vars; simp [upZ] at *; simp only [w32, w64] at *; omega))
    | skip
def s_X1_addLack : Sp := wspI 3 1 (fun as Z => match as with
    | [.inr (.inr a0), .inl a1, .inr (.inl a2)] => ((a0 = 80)) ∧ ((0 ≤ a1 ∧ a1 ≤ 12)) ∧ (True) ∧ True
    | _ => False) (fun as => match as with
    | [.inr (.inr a0), .inl a1, .inr (.inl a2)] => [83]
    | _ => []) 0 12
set_option maxRecDepth 100000 in
set_option maxHeartbeats 40000000 in
theorem c_X1_addLack {l : Launch} {D : va_G} {cA : Nat → ClassId} : PM l D cA yX1_addLack cX1_addLack 4 (some .int) 0 0 s_X1_addLack := by
  refine of_X1_addLack  (fun as σ hwf hao hpre => ?_)
  obtain ⟨n, Z, R⟩ := σ
  obtain ⟨hR, hI, hpre⟩ := hpre
  obtain rfl : R = R0 := hR
  rcases as with _ | ⟨x | x | a0, _ | ⟨a1 | x | x, _ | ⟨x | a2 | x, _ | ⟨v, t⟩⟩⟩⟩ <;> first | exact (hpre : False).elim | skip
  obtain ⟨k1l, k1u⟩ : okI a1 := hao (vi a1) (by simp)
  obtain ⟨k2l, k2u⟩ : okL a2 := hao (vl a2) (by simp)
  obtain ⟨h0, h1, h2, -⟩ := hpre
  have hk : keeps ([83]) Z Z := keeps_refl
  refine ⟨Nat.le_of_ble_eq_true rfl, fun G hG => ?_⟩
  clear hao hwf
  obtain rfl := h0
  refine wq_run hG n R0 [] 900 _ _ _ _ ?_
  repeat' (first
      | with_reducible rfl
      | refine And.intro ?_ ?_
      | with_reducible exact True.intro
      | ((with_reducible show _ = true); rfl)
      | ((with_reducible show recvG _ _); rfl)
      | ((with_reducible show CI _); first | with_reducible assumption | assumption)
      | (fail_if_success (first | (with_reducible show _ ≤ _) | (with_reducible show _ = _) | (with_reducible show _ ∨ _) | (with_reducible show _ < _) | (with_reducible show G _ _ _ _))
         first
         | show G _ _ _ _
         | (intro (Z2 : ZT) hZ2; have hZ3 : Z' = Z2 := hZ2.symm; subst hZ3)
         | (intro (Z2 : ZT) hZ2; have hZ3 : Z1 = Z2 := hZ2.symm; subst hZ3)
         | (intro (Z2 : ZT) hZ2; have hZ3 : Z = Z2 := hZ2.symm; subst hZ3)
         | (refine ld_bnd (by first | with_reducible assumption | assumption) rfl ?_; intro _ _ _ _)
         | (refine st_bnd (by first | with_reducible assumption | assumption) (by first | with_reducible assumption | assumption) (by decide) (fun lo hi hb => by first | (cases hb; done) | (cases hb; constructor <;> (first | omega | (simp (disch := omega) only [w32_id, w64_id]; omega) | (simp (disch := omega) only [w32_id, w64_id] at *; omega) | (simp only [w32, w64] at *; omega) | exact (and32_le (by omega) (by omega)).1 | exact (and32_le (by omega) (by omega)).2 | exact (mulR (by omega) (by omega) (by omega) (by omega)).1 | exact (mulR (by omega) (by omega) (by omega) (by omega)).2 | (subst_vars; simp [upZ] at *; omega) | (subst_vars; simp [upZ] at *; simp only [w32, w64] at *; omega)))) ?_; intro Z' _ _ _)
         | (intro (r : Option PV) σ' hq
            first
            | (obtain ⟨rfl, rfl⟩ := hq)
            | (obtain ⟨Z', x, rfl, rfl, hI2, hk2, hl2, hu2⟩ := hq; have hk3 := keeps_to (by first | with_reducible assumption | assumption) (by rfl) hk2; clear hk2)
            | (obtain ⟨Z', x, rfl, rfl, hI2, hk2⟩ := hq; have hk3 := keeps_to (by first | with_reducible assumption | assumption) (by rfl) hk2; clear hk2)
            | (rcases hq with ⟨Z', rfl, rfl, hI2, hk2⟩ | ⟨Z', rfl, rfl, hI2, hk2⟩ <;> (have hk3 := keeps_to (by first | with_reducible assumption | assumption) (by rfl) hk2; clear hk2))
            | (obtain ⟨Z', rfl, rfl, hI2, hk2⟩ := hq; have hk3 := keeps_to (by first | with_reducible assumption | assumption) (by rfl) hk2; clear hk2))
         | (intro hc; (try simp only [cmp3_c] at hc); simp only [cmpI] at hc)
         | (show CI _; assumption)
         | intro (_ : Int)
         | intro (Z' : ZT)
         | intro (_ : CI _)
         | intro (_ : keeps _ _ _)
         | intro (_ : _ ≤ _)
         | intro (_ : _ = _)
         | intro (_ : _ < _)
         | intro (_ : _ ∨ _)))
  all_goals first
    | with_reducible rfl
    | ((with_reducible show _ = _); rfl)
    | ((with_reducible show recvG _ _); rfl)
    | with_reducible exact trivial
    | ((fail_if_success (first | (with_reducible show _ ≤ _) | (with_reducible show _ = _) | (with_reducible show _ ∨ _) | (with_reducible show _ < _) | (with_reducible show G _ _ _ _))); (refine Exists.intro _ (And.intro rfl (And.intro rfl (And.intro ?_ ?_)))) <;> with_reducible assumption)
    | ((fail_if_success (first | (with_reducible show _ ≤ _) | (with_reducible show _ = _) | (with_reducible show _ ∨ _) | (with_reducible show _ < _) | (with_reducible show G _ _ _ _))); exact Exists.intro _ (Exists.intro _ ⟨rfl, rfl, by assumption, by assumption, by (first | omega | (simp (disch := omega) only [w32_id, w64_id]; omega) | (simp (disch := omega) only [w32_id, w64_id] at *; omega) | (simp only [w32, w64] at *; omega) | exact (and32_le (by omega) (by omega)).1 | exact (and32_le (by omega) (by omega)).2 | exact (mulR (by omega) (by omega) (by omega) (by omega)).1 | exact (mulR (by omega) (by omega) (by omega) (by omega)).2 | (subst_vars; simp [upZ] at *; omega) | (subst_vars; simp [upZ] at *; simp only [w32, w64] at *; omega)), by (first | omega | (simp (disch := omega) only [w32_id, w64_id]; omega) | (simp (disch := omega) only [w32_id, w64_id] at *; omega) | (simp only [w32, w64] at *; omega) | exact (and32_le (by omega) (by omega)).1 | exact (and32_le (by omega) (by omega)).2 | exact (mulR (by omega) (by omega) (by omega) (by omega)).1 | exact (mulR (by omega) (by omega) (by omega) (by omega)).2 | (subst_vars; simp [upZ] at *; omega) | (subst_vars; simp [upZ] at *; simp only [w32, w64] at *; omega))⟩))
    | ((fail_if_success (first | (with_reducible show _ ≤ _) | (with_reducible show _ = _) | (with_reducible show _ ∨ _) | (with_reducible show _ < _) | (with_reducible show G _ _ _ _))); exact Exists.intro _ (Exists.intro _ ⟨rfl, rfl, by assumption, by assumption⟩))
    | ((fail_if_success (first | (with_reducible show _ ≤ _) | (with_reducible show _ = _) | (with_reducible show _ ∨ _) | (with_reducible show _ < _) | (with_reducible show G _ _ _ _))); exact Exists.intro _ ⟨rfl, rfl, by assumption, by assumption⟩)
    | ((fail_if_success (first | (with_reducible show _ ≤ _) | (with_reducible show _ = _) | (with_reducible show _ ∨ _) | (with_reducible show _ < _) | (with_reducible show G _ _ _ _))); exact Or.inl (Exists.intro _ ⟨rfl, rfl, by assumption, by assumption⟩))
    | ((fail_if_success (first | (with_reducible show _ ≤ _) | (with_reducible show _ = _) | (with_reducible show _ ∨ _) | (with_reducible show _ < _) | (with_reducible show G _ _ _ _))); exact Or.inr (Exists.intro _ ⟨rfl, rfl, by assumption, by assumption⟩))
    | omega
    | rfl
    | exact trivial
    | decide
    | (show (0 : Int) < _; omega)
    | (show (0 : Int) < _; simp only [w64] at *; omega)
    | (simp only [w32, w64] at *; omega)
    | (first | omega | (simp (disch := omega) only [w32_id, w64_id]; omega) | (simp (disch := omega) only [w32_id, w64_id] at *; omega) | (simp only [w32, w64] at *; omega) | exact (and32_le (by omega) (by omega)).1 | exact (and32_le (by omega) (by omega)).2 | exact (mulR (by omega) (by omega) (by omega) (by omega)).1 | exact (mulR (by omega) (by omega) (by omega) (by omega)).2 | (subst_vars; simp [upZ] at *; omega) | (subst_vars; simp [upZ] at *; simp only [w32, w64] at *; omega))
    | skip
