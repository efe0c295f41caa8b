/-! ===== numbers: what the class makes ===== -/
def s_X0_namedN : Sp := rPI 6 0 (fun as Z => match as with
    | [.inr (.inr a0), .inr (.inr a1), .inr (.inr a2), .inl a3, .inl a4, .inl a5] => (((a0 = 70 ∧ a1 = 2 ∧ a2 = 18) ∨ (a0 = 72 ∧ a1 = 2 ∧ a2 = 18) ∨ (a0 = 74 ∧ a1 = 2 ∧ a2 = 18) ∨ (a0 = 76 ∧ a1 = 4 ∧ a2 = 18))) ∧ (True) ∧ (True) ∧ (True) ∧ (True) ∧ (True) ∧ (Z a0 0 = rmB a0) ∧ (NRW Z a1) ∧ (NC a3) ∧ (1 ≤ a4 ∧ a4 ≤ 12) ∧ (0 ≤ a5 ∧ a5 < Z a1 2) ∧ (Z a1 2 ≤ rmB a0) ∧ True
    | _ => False) (fun as Z (x : Int) => match as with
    | [.inr (.inr a0), .inr (.inr a1), .inr (.inr a2), .inl a3, .inl a4, .inl a5] => (x = nmW (envN Z a1) (BR Z a0) (mN a3) a4.toNat a5.toNat) ∧ True
    | _ => False)
set_option maxRecDepth 100000 in
set_option maxHeartbeats 40000000 in
theorem c_X0_namedN {l : Launch} {D : va_G} {cA : Nat → ClassId} : PM l D cA yX0_named cX0_named 8 (some .int) 1 24 s_X0_namedN := by
  refine of_X0_named (c_X5_letterOfX) ⟨rfl, rfl⟩ (c_X5_sideOfX) ⟨rfl, rfl⟩ (c_X3_besideN) ⟨rfl, rfl⟩ (c_X5_isNowX) ⟨rfl, rfl⟩ (c_X0_numberN) ⟨rfl, rfl⟩ (fun as σ hwf hao hpre => ?_)
  obtain ⟨n, Z, R⟩ := σ
  obtain ⟨hR, hI, hpre⟩ := hpre
  obtain rfl : R = R0 := hR
  (try replace hI : CI Z := hI)
  rcases as with _ | ⟨x | x | a0, _ | ⟨x | x | a1, _ | ⟨x | x | a2, _ | ⟨a3 | x | x, _ | ⟨a4 | x | x, _ | ⟨a5 | x | x, _ | ⟨v, t⟩⟩⟩⟩⟩⟩⟩ <;> first | exact (hpre : False).elim | skip
  obtain ⟨k3l, k3u⟩ : okI a3 := hao (vi a3) (by simp)
  obtain ⟨k4l, k4u⟩ : okI a4 := hao (vi a4) (by simp)
  obtain ⟨k5l, k5u⟩ : okI a5 := hao (vi a5) (by simp)
  obtain ⟨h0, h1, h2, h3, h4, h5, q0, q1, q2, q3, q4, q5, -⟩ := hpre
  have hk : kp ([]) Z Z := kp_refl
  refine ⟨Nat.le_of_ble_eq_true rfl, fun G hG => ?_⟩
  clear hao hwf
  (try dsimp only at q0)
  (try dsimp only at q1)
  (try dsimp only at q2)
  (try dsimp only at q3)
  (try dsimp only at q4)
  (try dsimp only at q5)
  rcases h0 with ⟨rfl, rfl, rfl⟩ | ⟨rfl, rfl, rfl⟩ | ⟨rfl, rfl, rfl⟩ | ⟨rfl, rfl, rfl⟩
  · (first | have hrc : Z 2 2 ≤ 36 := q5 | have hrc : Z 2 2 ≤ 9 := q5)
    (have hrc2 : Z 2 2 ≤ 36 := by omega)
    refine wq_run hG n R0 [] 900 _ _ _ _ ?_
    repeat' (first
        | with_reducible rfl
        | refine And.intro ?_ ?_
        | with_reducible exact True.intro
        | ((with_reducible show _ = true); rfl)
        | ((with_reducible show recvG _ _); rfl)
        | ((with_reducible show CI _); first | with_reducible assumption | assumption)
        | (fail_if_success (first | (with_reducible show _ ≤ _) | (with_reducible show _ = _) | (with_reducible show _ ∨ _) | (with_reducible show _ < _) | (with_reducible show G _ _ _ _))
           first
           | show G _ _ _ _
           | (refine ld_bnd (by first | with_reducible assumption | assumption) rfl ?_; intro _ _ _ hld; (try dsimp only at hld); (try simp only [Nat.reduceAdd] at hld))
           | (refine st_k (by first | with_reducible assumption | assumption) (by first | with_reducible assumption | assumption) (by first | exact Or.inl (by decide) | exact Or.inr (by decide)) (fun lo hi hb => by first | (cases hb; done) | (cases hb; constructor <;> (first | omega | ((try dsimp only); (first | omega | (simp (disch := omega) only [w32_id, w64_id]; omega) | (simp only [w32, w64]; omega) | (with_reducible refine (and32_le ?_ ?_).1 <;> omega) | (with_reducible refine (and32_le ?_ ?_).2 <;> omega) | (with_reducible refine (mulR ?_ ?_ ?_ ?_).1 <;> omega) | (with_reducible refine (mulR ?_ ?_ ?_ ?_).2 <;> omega) | (simp only [w32, w64] at *; omega) | (simp (disch := omega) only [w32_id, w64_id] at *; omega) | (simp (disch := omega) only [tdiv_nn, tmod_nn, w32_id, w64_id] at *; omega) | (subst_vars; simp [upZ] at *; omega) | (subst_vars; simp [upZ] at *; simp only [w32, w64] at *; omega))) | fail))) ?_; intro Z' _ hkk; intro hld; (try dsimp only at hld); (try simp only [Nat.reduceAdd] at hld); intro hup; (try dsimp only at hup))
           | (refine st_k (by first | with_reducible assumption | assumption) (by first | with_reducible assumption | assumption) (by first | exact Or.inl (by decide) | exact Or.inr (by decide)) (fun lo hi hb => ?_) ?_; (cases hb; refine And.intro ?_ ?_))
           | refine st_same ?_
           | (intro (r : Option PV) σ' hq
              first
              | (obtain ⟨rfl, x, rfl, hp⟩ := hq; (try replace hp : _ ∧ _ := hp); (try dsimp only at hp); (first | (have hL := nc_l q2 (hp.1 : _ = and32 a3 3)) | (have hS := nc_s q2 (hp.1 : _ = and32 (shr32 a3 2) 7)) | (have hB : _ = Z (2 + 1) _ := hp.1; have hBr := nrw_r (g := 2) q1 hB (by omega) (by omega)) | (have hN := nc_n q2 hp.1) | (have hR : _ = BR Z 70 _ := hp.1) | skip))
              | (obtain ⟨Z', (o : Nat), rfl, rfl, hI2, hk2, ⟨⟨hp, rfl⟩ | ⟨hp, rfl⟩, -⟩⟩ := hq <;> ((first | have hk3 := kp_to (by first | with_reducible assumption | assumption) (by rfl) hk2 | have hk3 := ks_to (by first | with_reducible assumption | assumption) (by rfl) hk2); clear hk2))
              | (obtain ⟨Z', x, rfl, rfl, hI2, hk2, hp⟩ := hq; (try replace hp : _ ∧ _ := hp); (try dsimp only at hp); (first | have hk3 := kp_to (by first | with_reducible assumption | assumption) (by rfl) hk2 | have hk3 := ks_to (by first | with_reducible assumption | assumption) (by rfl) hk2); clear hk2; (first | (have hL := nc_l q2 (hp.1 : _ = and32 a3 3)) | (have hS := nc_s q2 (hp.1 : _ = and32 (shr32 a3 2) 7)) | (have hB : _ = Z (2 + 1) _ := hp.1; have hBr := nrw_r (g := 2) q1 hB (by omega) (by omega)) | (have hN := nc_n q2 hp.1) | (have hR : _ = BR Z 70 _ := hp.1) | skip))
              | (obtain ⟨Z', rfl, rfl, hI2, hk2, hp⟩ := hq; (try replace hp : _ ∧ _ := hp); (try dsimp only at hp); (first | have hk3 := kp_to (by first | with_reducible assumption | assumption) (by rfl) hk2 | have hk3 := ks_to (by first | with_reducible assumption | assumption) (by rfl) hk2); clear hk2; (first | (have hL := nc_l q2 (hp.1 : _ = and32 a3 3)) | (have hS := nc_s q2 (hp.1 : _ = and32 (shr32 a3 2) 7)) | (have hB : _ = Z (2 + 1) _ := hp.1; have hBr := nrw_r (g := 2) q1 hB (by omega) (by omega)) | (have hN := nc_n q2 hp.1) | (have hR : _ = BR Z 70 _ := hp.1) | skip))
              | (obtain ⟨rfl, rfl⟩ := hq)
              | (obtain ⟨Z', x, rfl, rfl, hI2, hk2⟩ := hq; have hkn := keeps_nil hk2; clear hk2; subst hkn)
              | (obtain ⟨Z', x, rfl, rfl, hI2, hk2⟩ := hq; (first | have hk3 := kp_to (by first | with_reducible assumption | assumption) (by rfl) hk2 | have hk3 := ks_to (by first | with_reducible assumption | assumption) (by rfl) hk2); clear hk2)
              | (rcases hq with ⟨Z', rfl, rfl, hI2, hk2⟩ | ⟨Z', rfl, rfl, hI2, hk2⟩ <;> ((first | have hk3 := kp_to (by first | with_reducible assumption | assumption) (by rfl) hk2 | have hk3 := ks_to (by first | with_reducible assumption | assumption) (by rfl) hk2); clear hk2))
              | (obtain ⟨Z', rfl, rfl, hI2, hk2⟩ := hq; (first | have hk3 := kp_to (by first | with_reducible assumption | assumption) (by rfl) hk2 | have hk3 := ks_to (by first | with_reducible assumption | assumption) (by rfl) hk2); clear hk2))
           | (intro hc; (try simp only [cmp3_c] at hc); simp only [cmpI] at hc)
           | (show CI _; assumption)
           | intro (_ : Int)
           | intro (Z' : ZT)
           | intro (_ : CI _)
           | (intro (hkk : kp _ _ _))
           | intro (_ : _ ≤ _)
           | (intro (hup : _ = upZ _ _ _ _); (try dsimp only at hup))
           | (intro (hld : _ = _); (try dsimp only at hld); (try simp only [Nat.reduceAdd] at hld))
           | intro (_ : _ < _)
           | intro (_ : _ ≠ _)
           | intro (_ : _ ∨ _)))
    all_goals first
      | with_reducible rfl
      | ((with_reducible show _ = _); rfl)
      | ((with_reducible show recvG _ _); rfl)
      | with_reducible exact trivial
      | with_reducible assumption
      | ((with_reducible show _ < _); (first | (show _ < (36 : Int)) | (show _ < (9 : Int))); omega)
      | exact q0
      | ((fail_if_success (first | (with_reducible show _ ≤ _) | (with_reducible show _ = _) | (with_reducible show _ ∨ _) | (with_reducible show _ < _) | (with_reducible show G _ _ _ _))); (refine Exists.intro _ (And.intro rfl ?_); (refine ⟨?_, trivial⟩; (first | done | focus (first | (dsimp only; done) | ((try dsimp only); ((first | exact nm_rim (g := 2) (b := 70) q2 q1 q4 hL hS hB (by omega) (by assumption) | exact nm_now (g := 2) (b := 70) q2 q1 q4 hL hS hB (by omega) hR | exact nm_not (g := 2) (b := 70) (s := a4) q2 q4 hL hS hB (by omega) (by omega) ⟨(by simp (disch := omega) only [w32_id]), by omega⟩ hR | (exfalso; omega) | fail))))))))
      | omega
      | (dsimp only; omega)
      | decide
      | (show (0 : Int) < _; omega)
      | (show (0 : Int) < _; simp only [w64] at *; omega)
      | (simp only [w32, w64] at *; omega)
      | (first | omega | ((try dsimp only); (first | omega | (simp (disch := omega) only [w32_id, w64_id]; omega) | (simp only [w32, w64]; omega) | (with_reducible refine (and32_le ?_ ?_).1 <;> omega) | (with_reducible refine (and32_le ?_ ?_).2 <;> omega) | (with_reducible refine (mulR ?_ ?_ ?_ ?_).1 <;> omega) | (with_reducible refine (mulR ?_ ?_ ?_ ?_).2 <;> omega) | (simp only [w32, w64] at *; omega) | (simp (disch := omega) only [w32_id, w64_id] at *; omega) | (simp (disch := omega) only [tdiv_nn, tmod_nn, w32_id, w64_id] at *; omega) | (subst_vars; simp [upZ] at *; omega) | (subst_vars; simp [upZ] at *; simp only [w32, w64] at *; omega))) | fail)
      | ((with_reducible show swT _ _ _ _); exact trivial)
      | rfl
      | ((fail_if_success (first | (with_reducible show _ ≤ _) | (with_reducible show _ = _) | (with_reducible show _ ∨ _) | (with_reducible show _ < _) | (with_reducible show G _ _ _ _) | (with_reducible show Exists _))); exact trivial)
      | skip
  · (first | have hrc : Z 2 2 ≤ 36 := q5 | have hrc : Z 2 2 ≤ 9 := q5)
    (have hrc2 : Z 2 2 ≤ 36 := by omega)
    refine wq_run hG n R0 [] 900 _ _ _ _ ?_
    repeat' (first
        | with_reducible rfl
        | refine And.intro ?_ ?_
        | with_reducible exact True.intro
        | ((with_reducible show _ = true); rfl)
        | ((with_reducible show recvG _ _); rfl)
        | ((with_reducible show CI _); first | with_reducible assumption | assumption)
        | (fail_if_success (first | (with_reducible show _ ≤ _) | (with_reducible show _ = _) | (with_reducible show _ ∨ _) | (with_reducible show _ < _) | (with_reducible show G _ _ _ _))
           first
           | show G _ _ _ _
           | (refine ld_bnd (by first | with_reducible assumption | assumption) rfl ?_; intro _ _ _ hld; (try dsimp only at hld); (try simp only [Nat.reduceAdd] at hld))
           | (refine st_k (by first | with_reducible assumption | assumption) (by first | with_reducible assumption | assumption) (by first | exact Or.inl (by decide) | exact Or.inr (by decide)) (fun lo hi hb => by first | (cases hb; done) | (cases hb; constructor <;> (first | omega | ((try dsimp only); (first | omega | (simp (disch := omega) only [w32_id, w64_id]; omega) | (simp only [w32, w64]; omega) | (with_reducible refine (and32_le ?_ ?_).1 <;> omega) | (with_reducible refine (and32_le ?_ ?_).2 <;> omega) | (with_reducible refine (mulR ?_ ?_ ?_ ?_).1 <;> omega) | (with_reducible refine (mulR ?_ ?_ ?_ ?_).2 <;> omega) | (simp only [w32, w64] at *; omega) | (simp (disch := omega) only [w32_id, w64_id] at *; omega) | (simp (disch := omega) only [tdiv_nn, tmod_nn, w32_id, w64_id] at *; omega) | (subst_vars; simp [upZ] at *; omega) | (subst_vars; simp [upZ] at *; simp only [w32, w64] at *; omega))) | fail))) ?_; intro Z' _ hkk; intro hld; (try dsimp only at hld); (try simp only [Nat.reduceAdd] at hld); intro hup; (try dsimp only at hup))
           | (refine st_k (by first | with_reducible assumption | assumption) (by first | with_reducible assumption | assumption) (by first | exact Or.inl (by decide) | exact Or.inr (by decide)) (fun lo hi hb => ?_) ?_; (cases hb; refine And.intro ?_ ?_))
           | refine st_same ?_
           | (intro (r : Option PV) σ' hq
              first
              | (obtain ⟨rfl, x, rfl, hp⟩ := hq; (try replace hp : _ ∧ _ := hp); (try dsimp only at hp); (first | (have hL := nc_l q2 (hp.1 : _ = and32 a3 3)) | (have hS := nc_s q2 (hp.1 : _ = and32 (shr32 a3 2) 7)) | (have hB : _ = Z (2 + 1) _ := hp.1; have hBr := nrw_r (g := 2) q1 hB (by omega) (by omega)) | (have hN := nc_n q2 hp.1) | (have hR : _ = BR Z 72 _ := hp.1) | skip))
              | (obtain ⟨Z', (o : Nat), rfl, rfl, hI2, hk2, ⟨⟨hp, rfl⟩ | ⟨hp, rfl⟩, -⟩⟩ := hq <;> ((first | have hk3 := kp_to (by first | with_reducible assumption | assumption) (by rfl) hk2 | have hk3 := ks_to (by first | with_reducible assumption | assumption) (by rfl) hk2); clear hk2))
              | (obtain ⟨Z', x, rfl, rfl, hI2, hk2, hp⟩ := hq; (try replace hp : _ ∧ _ := hp); (try dsimp only at hp); (first | have hk3 := kp_to (by first | with_reducible assumption | assumption) (by rfl) hk2 | have hk3 := ks_to (by first | with_reducible assumption | assumption) (by rfl) hk2); clear hk2; (first | (have hL := nc_l q2 (hp.1 : _ = and32 a3 3)) | (have hS := nc_s q2 (hp.1 : _ = and32 (shr32 a3 2) 7)) | (have hB : _ = Z (2 + 1) _ := hp.1; have hBr := nrw_r (g := 2) q1 hB (by omega) (by omega)) | (have hN := nc_n q2 hp.1) | (have hR : _ = BR Z 72 _ := hp.1) | skip))
              | (obtain ⟨Z', rfl, rfl, hI2, hk2, hp⟩ := hq; (try replace hp : _ ∧ _ := hp); (try dsimp only at hp); (first | have hk3 := kp_to (by first | with_reducible assumption | assumption) (by rfl) hk2 | have hk3 := ks_to (by first | with_reducible assumption | assumption) (by rfl) hk2); clear hk2; (first | (have hL := nc_l q2 (hp.1 : _ = and32 a3 3)) | (have hS := nc_s q2 (hp.1 : _ = and32 (shr32 a3 2) 7)) | (have hB : _ = Z (2 + 1) _ := hp.1; have hBr := nrw_r (g := 2) q1 hB (by omega) (by omega)) | (have hN := nc_n q2 hp.1) | (have hR : _ = BR Z 72 _ := hp.1) | skip))
              | (obtain ⟨rfl, rfl⟩ := hq)
              | (obtain ⟨Z', x, rfl, rfl, hI2, hk2⟩ := hq; have hkn := keeps_nil hk2; clear hk2; subst hkn)
              | (obtain ⟨Z', x, rfl, rfl, hI2, hk2⟩ := hq; (first | have hk3 := kp_to (by first | with_reducible assumption | assumption) (by rfl) hk2 | have hk3 := ks_to (by first | with_reducible assumption | assumption) (by rfl) hk2); clear hk2)
              | (rcases hq with ⟨Z', rfl, rfl, hI2, hk2⟩ | ⟨Z', rfl, rfl, hI2, hk2⟩ <;> ((first | have hk3 := kp_to (by first | with_reducible assumption | assumption) (by rfl) hk2 | have hk3 := ks_to (by first | with_reducible assumption | assumption) (by rfl) hk2); clear hk2))
              | (obtain ⟨Z', rfl, rfl, hI2, hk2⟩ := hq; (first | have hk3 := kp_to (by first | with_reducible assumption | assumption) (by rfl) hk2 | have hk3 := ks_to (by first | with_reducible assumption | assumption) (by rfl) hk2); clear hk2))
           | (intro hc; (try simp only [cmp3_c] at hc); simp only [cmpI] at hc)
           | (show CI _; assumption)
           | intro (_ : Int)
           | intro (Z' : ZT)
           | intro (_ : CI _)
           | (intro (hkk : kp _ _ _))
           | intro (_ : _ ≤ _)
           | (intro (hup : _ = upZ _ _ _ _); (try dsimp only at hup))
           | (intro (hld : _ = _); (try dsimp only at hld); (try simp only [Nat.reduceAdd] at hld))
           | intro (_ : _ < _)
           | intro (_ : _ ≠ _)
           | intro (_ : _ ∨ _)))
    all_goals first
      | with_reducible rfl
      | ((with_reducible show _ = _); rfl)
      | ((with_reducible show recvG _ _); rfl)
      | with_reducible exact trivial
      | with_reducible assumption
      | ((with_reducible show _ < _); (first | (show _ < (36 : Int)) | (show _ < (9 : Int))); omega)
      | exact q0
      | ((fail_if_success (first | (with_reducible show _ ≤ _) | (with_reducible show _ = _) | (with_reducible show _ ∨ _) | (with_reducible show _ < _) | (with_reducible show G _ _ _ _))); (refine Exists.intro _ (And.intro rfl ?_); (refine ⟨?_, trivial⟩; (first | done | focus (first | (dsimp only; done) | ((try dsimp only); ((first | exact nm_rim (g := 2) (b := 72) q2 q1 q4 hL hS hB (by omega) (by assumption) | exact nm_now (g := 2) (b := 72) q2 q1 q4 hL hS hB (by omega) hR | exact nm_not (g := 2) (b := 72) (s := a4) q2 q4 hL hS hB (by omega) (by omega) ⟨(by simp (disch := omega) only [w32_id]), by omega⟩ hR | (exfalso; omega) | fail))))))))
      | omega
      | (dsimp only; omega)
      | decide
      | (show (0 : Int) < _; omega)
      | (show (0 : Int) < _; simp only [w64] at *; omega)
      | (simp only [w32, w64] at *; omega)
      | (first | omega | ((try dsimp only); (first | omega | (simp (disch := omega) only [w32_id, w64_id]; omega) | (simp only [w32, w64]; omega) | (with_reducible refine (and32_le ?_ ?_).1 <;> omega) | (with_reducible refine (and32_le ?_ ?_).2 <;> omega) | (with_reducible refine (mulR ?_ ?_ ?_ ?_).1 <;> omega) | (with_reducible refine (mulR ?_ ?_ ?_ ?_).2 <;> omega) | (simp only [w32, w64] at *; omega) | (simp (disch := omega) only [w32_id, w64_id] at *; omega) | (simp (disch := omega) only [tdiv_nn, tmod_nn, w32_id, w64_id] at *; omega) | (subst_vars; simp [upZ] at *; omega) | (subst_vars; simp [upZ] at *; simp only [w32, w64] at *; omega))) | fail)
      | ((with_reducible show swT _ _ _ _); exact trivial)
      | rfl
      | ((fail_if_success (first | (with_reducible show _ ≤ _) | (with_reducible show _ = _) | (with_reducible show _ ∨ _) | (with_reducible show _ < _) | (with_reducible show G _ _ _ _) | (with_reducible show Exists _))); exact trivial)
      | skip
  · (first | have hrc : Z 2 2 ≤ 36 := q5 | have hrc : Z 2 2 ≤ 9 := q5)
    (have hrc2 : Z 2 2 ≤ 36 := by omega)
    refine wq_run hG n R0 [] 900 _ _ _ _ ?_
    repeat' (first
        | with_reducible rfl
        | refine And.intro ?_ ?_
        | with_reducible exact True.intro
        | ((with_reducible show _ = true); rfl)
        | ((with_reducible show recvG _ _); rfl)
        | ((with_reducible show CI _); first | with_reducible assumption | assumption)
        | (fail_if_success (first | (with_reducible show _ ≤ _) | (with_reducible show _ = _) | (with_reducible show _ ∨ _) | (with_reducible show _ < _) | (with_reducible show G _ _ _ _))
           first
           | show G _ _ _ _
           | (refine ld_bnd (by first | with_reducible assumption | assumption) rfl ?_; intro _ _ _ hld; (try dsimp only at hld); (try simp only [Nat.reduceAdd] at hld))
           | (refine st_k (by first | with_reducible assumption | assumption) (by first | with_reducible assumption | assumption) (by first | exact Or.inl (by decide) | exact Or.inr (by decide)) (fun lo hi hb => by first | (cases hb; done) | (cases hb; constructor <;> (first | omega | ((try dsimp only); (first | omega | (simp (disch := omega) only [w32_id, w64_id]; omega) | (simp only [w32, w64]; omega) | (with_reducible refine (and32_le ?_ ?_).1 <;> omega) | (with_reducible refine (and32_le ?_ ?_).2 <;> omega) | (with_reducible refine (mulR ?_ ?_ ?_ ?_).1 <;> omega) | (with_reducible refine (mulR ?_ ?_ ?_ ?_).2 <;> omega) | (simp only [w32, w64] at *; omega) | (simp (disch := omega) only [w32_id, w64_id] at *; omega) | (simp (disch := omega) only [tdiv_nn, tmod_nn, w32_id, w64_id] at *; omega) | (subst_vars; simp [upZ] at *; omega) | (subst_vars; simp [upZ] at *; simp only [w32, w64] at *; omega))) | fail))) ?_; intro Z' _ hkk; intro hld; (try dsimp only at hld); (try simp only [Nat.reduceAdd] at hld); intro hup; (try dsimp only at hup))
           | (refine st_k (by first | with_reducible assumption | assumption) (by first | with_reducible assumption | assumption) (by first | exact Or.inl (by decide) | exact Or.inr (by decide)) (fun lo hi hb => ?_) ?_; (cases hb; refine And.intro ?_ ?_))
           | refine st_same ?_
           | (intro (r : Option PV) σ' hq
              first
              | (obtain ⟨rfl, x, rfl, hp⟩ := hq; (try replace hp : _ ∧ _ := hp); (try dsimp only at hp); (first | (have hL := nc_l q2 (hp.1 : _ = and32 a3 3)) | (have hS := nc_s q2 (hp.1 : _ = and32 (shr32 a3 2) 7)) | (have hB : _ = Z (2 + 1) _ := hp.1; have hBr := nrw_r (g := 2) q1 hB (by omega) (by omega)) | (have hN := nc_n q2 hp.1) | (have hR : _ = BR Z 74 _ := hp.1) | skip))
              | (obtain ⟨Z', (o : Nat), rfl, rfl, hI2, hk2, ⟨⟨hp, rfl⟩ | ⟨hp, rfl⟩, -⟩⟩ := hq <;> ((first | have hk3 := kp_to (by first | with_reducible assumption | assumption) (by rfl) hk2 | have hk3 := ks_to (by first | with_reducible assumption | assumption) (by rfl) hk2); clear hk2))
              | (obtain ⟨Z', x, rfl, rfl, hI2, hk2, hp⟩ := hq; (try replace hp : _ ∧ _ := hp); (try dsimp only at hp); (first | have hk3 := kp_to (by first | with_reducible assumption | assumption) (by rfl) hk2 | have hk3 := ks_to (by first | with_reducible assumption | assumption) (by rfl) hk2); clear hk2; (first | (have hL := nc_l q2 (hp.1 : _ = and32 a3 3)) | (have hS := nc_s q2 (hp.1 : _ = and32 (shr32 a3 2) 7)) | (have hB : _ = Z (2 + 1) _ := hp.1; have hBr := nrw_r (g := 2) q1 hB (by omega) (by omega)) | (have hN := nc_n q2 hp.1) | (have hR : _ = BR Z 74 _ := hp.1) | skip))
              | (obtain ⟨Z', rfl, rfl, hI2, hk2, hp⟩ := hq; (try replace hp : _ ∧ _ := hp); (try dsimp only at hp); (first | have hk3 := kp_to (by first | with_reducible assumption | assumption) (by rfl) hk2 | have hk3 := ks_to (by first | with_reducible assumption | assumption) (by rfl) hk2); clear hk2; (first | (have hL := nc_l q2 (hp.1 : _ = and32 a3 3)) | (have hS := nc_s q2 (hp.1 : _ = and32 (shr32 a3 2) 7)) | (have hB : _ = Z (2 + 1) _ := hp.1; have hBr := nrw_r (g := 2) q1 hB (by omega) (by omega)) | (have hN := nc_n q2 hp.1) | (have hR : _ = BR Z 74 _ := hp.1) | skip))
              | (obtain ⟨rfl, rfl⟩ := hq)
              | (obtain ⟨Z', x, rfl, rfl, hI2, hk2⟩ := hq; have hkn := keeps_nil hk2; clear hk2; subst hkn)
              | (obtain ⟨Z', x, rfl, rfl, hI2, hk2⟩ := hq; (first | have hk3 := kp_to (by first | with_reducible assumption | assumption) (by rfl) hk2 | have hk3 := ks_to (by first | with_reducible assumption | assumption) (by rfl) hk2); clear hk2)
              | (rcases hq with ⟨Z', rfl, rfl, hI2, hk2⟩ | ⟨Z', rfl, rfl, hI2, hk2⟩ <;> ((first | have hk3 := kp_to (by first | with_reducible assumption | assumption) (by rfl) hk2 | have hk3 := ks_to (by first | with_reducible assumption | assumption) (by rfl) hk2); clear hk2))
              | (obtain ⟨Z', rfl, rfl, hI2, hk2⟩ := hq; (first | have hk3 := kp_to (by first | with_reducible assumption | assumption) (by rfl) hk2 | have hk3 := ks_to (by first | with_reducible assumption | assumption) (by rfl) hk2); clear hk2))
           | (intro hc; (try simp only [cmp3_c] at hc); simp only [cmpI] at hc)
           | (show CI _; assumption)
           | intro (_ : Int)
           | intro (Z' : ZT)
           | intro (_ : CI _)
           | (intro (hkk : kp _ _ _))
           | intro (_ : _ ≤ _)
           | (intro (hup : _ = upZ _ _ _ _); (try dsimp only at hup))
           | (intro (hld : _ = _); (try dsimp only at hld); (try simp only [Nat.reduceAdd] at hld))
           | intro (_ : _ < _)
           | intro (_ : _ ≠ _)
           | intro (_ : _ ∨ _)))
    all_goals first
      | with_reducible rfl
      | ((with_reducible show _ = _); rfl)
      | ((with_reducible show recvG _ _); rfl)
      | with_reducible exact trivial
      | with_reducible assumption
      | ((with_reducible show _ < _); (first | (show _ < (36 : Int)) | (show _ < (9 : Int))); omega)
      | exact q0
      | ((fail_if_success (first | (with_reducible show _ ≤ _) | (with_reducible show _ = _) | (with_reducible show _ ∨ _) | (with_reducible show _ < _) | (with_reducible show G _ _ _ _))); (refine Exists.intro _ (And.intro rfl ?_); (refine ⟨?_, trivial⟩; (first | done | focus (first | (dsimp only; done) | ((try dsimp only); ((first | exact nm_rim (g := 2) (b := 74) q2 q1 q4 hL hS hB (by omega) (by assumption) | exact nm_now (g := 2) (b := 74) q2 q1 q4 hL hS hB (by omega) hR | exact nm_not (g := 2) (b := 74) (s := a4) q2 q4 hL hS hB (by omega) (by omega) ⟨(by simp (disch := omega) only [w32_id]), by omega⟩ hR | (exfalso; omega) | fail))))))))
      | omega
      | (dsimp only; omega)
      | decide
      | (show (0 : Int) < _; omega)
      | (show (0 : Int) < _; simp only [w64] at *; omega)
      | (simp only [w32, w64] at *; omega)
      | (first | omega | ((try dsimp only); (first | omega | (simp (disch := omega) only [w32_id, w64_id]; omega) | (simp only [w32, w64]; omega) | (with_reducible refine (and32_le ?_ ?_).1 <;> omega) | (with_reducible refine (and32_le ?_ ?_).2 <;> omega) | (with_reducible refine (mulR ?_ ?_ ?_ ?_).1 <;> omega) | (with_reducible refine (mulR ?_ ?_ ?_ ?_).2 <;> omega) | (simp only [w32, w64] at *; omega) | (simp (disch := omega) only [w32_id, w64_id] at *; omega) | (simp (disch := omega) only [tdiv_nn, tmod_nn, w32_id, w64_id] at *; omega) | (subst_vars; simp [upZ] at *; omega) | (subst_vars; simp [upZ] at *; simp only [w32, w64] at *; omega))) | fail)
      | ((with_reducible show swT _ _ _ _); exact trivial)
      | rfl
      | ((fail_if_success (first | (with_reducible show _ ≤ _) | (with_reducible show _ = _) | (with_reducible show _ ∨ _) | (with_reducible show _ < _) | (with_reducible show G _ _ _ _) | (with_reducible show Exists _))); exact trivial)
      | skip
  · (first | have hrc : Z 4 2 ≤ 36 := q5 | have hrc : Z 4 2 ≤ 9 := q5)
    (have hrc2 : Z 4 2 ≤ 36 := by omega)
    refine wq_run hG n R0 [] 900 _ _ _ _ ?_
    repeat' (first
        | with_reducible rfl
        | refine And.intro ?_ ?_
        | with_reducible exact True.intro
        | ((with_reducible show _ = true); rfl)
        | ((with_reducible show recvG _ _); rfl)
        | ((with_reducible show CI _); first | with_reducible assumption | assumption)
        | (fail_if_success (first | (with_reducible show _ ≤ _) | (with_reducible show _ = _) | (with_reducible show _ ∨ _) | (with_reducible show _ < _) | (with_reducible show G _ _ _ _))
           first
           | show G _ _ _ _
           | (refine ld_bnd (by first | with_reducible assumption | assumption) rfl ?_; intro _ _ _ hld; (try dsimp only at hld); (try simp only [Nat.reduceAdd] at hld))
           | (refine st_k (by first | with_reducible assumption | assumption) (by first | with_reducible assumption | assumption) (by first | exact Or.inl (by decide) | exact Or.inr (by decide)) (fun lo hi hb => by first | (cases hb; done) | (cases hb; constructor <;> (first | omega | ((try dsimp only); (first | omega | (simp (disch := omega) only [w32_id, w64_id]; omega) | (simp only [w32, w64]; omega) | (with_reducible refine (and32_le ?_ ?_).1 <;> omega) | (with_reducible refine (and32_le ?_ ?_).2 <;> omega) | (with_reducible refine (mulR ?_ ?_ ?_ ?_).1 <;> omega) | (with_reducible refine (mulR ?_ ?_ ?_ ?_).2 <;> omega) | (simp only [w32, w64] at *; omega) | (simp (disch := omega) only [w32_id, w64_id] at *; omega) | (simp (disch := omega) only [tdiv_nn, tmod_nn, w32_id, w64_id] at *; omega) | (subst_vars; simp [upZ] at *; omega) | (subst_vars; simp [upZ] at *; simp only [w32, w64] at *; omega))) | fail))) ?_; intro Z' _ hkk; intro hld; (try dsimp only at hld); (try simp only [Nat.reduceAdd] at hld); intro hup; (try dsimp only at hup))
           | (refine st_k (by first | with_reducible assumption | assumption) (by first | with_reducible assumption | assumption) (by first | exact Or.inl (by decide) | exact Or.inr (by decide)) (fun lo hi hb => ?_) ?_; (cases hb; refine And.intro ?_ ?_))
           | refine st_same ?_
           | (intro (r : Option PV) σ' hq
              first
              | (obtain ⟨rfl, x, rfl, hp⟩ := hq; (try replace hp : _ ∧ _ := hp); (try dsimp only at hp); (first | (have hL := nc_l q2 (hp.1 : _ = and32 a3 3)) | (have hS := nc_s q2 (hp.1 : _ = and32 (shr32 a3 2) 7)) | (have hB : _ = Z (4 + 1) _ := hp.1; have hBr := nrw_r (g := 4) q1 hB (by omega) (by omega)) | (have hN := nc_n q2 hp.1) | (have hR : _ = BR Z 76 _ := hp.1) | skip))
              | (obtain ⟨Z', (o : Nat), rfl, rfl, hI2, hk2, ⟨⟨hp, rfl⟩ | ⟨hp, rfl⟩, -⟩⟩ := hq <;> ((first | have hk3 := kp_to (by first | with_reducible assumption | assumption) (by rfl) hk2 | have hk3 := ks_to (by first | with_reducible assumption | assumption) (by rfl) hk2); clear hk2))
              | (obtain ⟨Z', x, rfl, rfl, hI2, hk2, hp⟩ := hq; (try replace hp : _ ∧ _ := hp); (try dsimp only at hp); (first | have hk3 := kp_to (by first | with_reducible assumption | assumption) (by rfl) hk2 | have hk3 := ks_to (by first | with_reducible assumption | assumption) (by rfl) hk2); clear hk2; (first | (have hL := nc_l q2 (hp.1 : _ = and32 a3 3)) | (have hS := nc_s q2 (hp.1 : _ = and32 (shr32 a3 2) 7)) | (have hB : _ = Z (4 + 1) _ := hp.1; have hBr := nrw_r (g := 4) q1 hB (by omega) (by omega)) | (have hN := nc_n q2 hp.1) | (have hR : _ = BR Z 76 _ := hp.1) | skip))
              | (obtain ⟨Z', rfl, rfl, hI2, hk2, hp⟩ := hq; (try replace hp : _ ∧ _ := hp); (try dsimp only at hp); (first | have hk3 := kp_to (by first | with_reducible assumption | assumption) (by rfl) hk2 | have hk3 := ks_to (by first | with_reducible assumption | assumption) (by rfl) hk2); clear hk2; (first | (have hL := nc_l q2 (hp.1 : _ = and32 a3 3)) | (have hS := nc_s q2 (hp.1 : _ = and32 (shr32 a3 2) 7)) | (have hB : _ = Z (4 + 1) _ := hp.1; have hBr := nrw_r (g := 4) q1 hB (by omega) (by omega)) | (have hN := nc_n q2 hp.1) | (have hR : _ = BR Z 76 _ := hp.1) | skip))
              | (obtain ⟨rfl, rfl⟩ := hq)
              | (obtain ⟨Z', x, rfl, rfl, hI2, hk2⟩ := hq; have hkn := keeps_nil hk2; clear hk2; subst hkn)
              | (obtain ⟨Z', x, rfl, rfl, hI2, hk2⟩ := hq; (first | have hk3 := kp_to (by first | with_reducible assumption | assumption) (by rfl) hk2 | have hk3 := ks_to (by first | with_reducible assumption | assumption) (by rfl) hk2); clear hk2)
              | (rcases hq with ⟨Z', rfl, rfl, hI2, hk2⟩ | ⟨Z', rfl, rfl, hI2, hk2⟩ <;> ((first | have hk3 := kp_to (by first | with_reducible assumption | assumption) (by rfl) hk2 | have hk3 := ks_to (by first | with_reducible assumption | assumption) (by rfl) hk2); clear hk2))
              | (obtain ⟨Z', rfl, rfl, hI2, hk2⟩ := hq; (first | have hk3 := kp_to (by first | with_reducible assumption | assumption) (by rfl) hk2 | have hk3 := ks_to (by first | with_reducible assumption | assumption) (by rfl) hk2); clear hk2))
           | (intro hc; (try simp only [cmp3_c] at hc); simp only [cmpI] at hc)
           | (show CI _; assumption)
           | intro (_ : Int)
           | intro (Z' : ZT)
           | intro (_ : CI _)
           | (intro (hkk : kp _ _ _))
           | intro (_ : _ ≤ _)
           | (intro (hup : _ = upZ _ _ _ _); (try dsimp only at hup))
           | (intro (hld : _ = _); (try dsimp only at hld); (try simp only [Nat.reduceAdd] at hld))
           | intro (_ : _ < _)
           | intro (_ : _ ≠ _)
           | intro (_ : _ ∨ _)))
    all_goals first
      | with_reducible rfl
      | ((with_reducible show _ = _); rfl)
      | ((with_reducible show recvG _ _); rfl)
      | with_reducible exact trivial
      | with_reducible assumption
      | ((with_reducible show _ < _); (first | (show _ < (36 : Int)) | (show _ < (9 : Int))); omega)
      | exact q0
      | ((fail_if_success (first | (with_reducible show _ ≤ _) | (with_reducible show _ = _) | (with_reducible show _ ∨ _) | (with_reducible show _ < _) | (with_reducible show G _ _ _ _))); (refine Exists.intro _ (And.intro rfl ?_); (refine ⟨?_, trivial⟩; (first | done | focus (first | (dsimp only; done) | ((try dsimp only); ((first | exact nm_rim (g := 4) (b := 76) q2 q1 q4 hL hS hB (by omega) (by assumption) | exact nm_now (g := 4) (b := 76) q2 q1 q4 hL hS hB (by omega) hR | exact nm_not (g := 4) (b := 76) (s := a4) q2 q4 hL hS hB (by omega) (by omega) ⟨(by simp (disch := omega) only [w32_id]), by omega⟩ hR | (exfalso; omega) | fail))))))))
      | omega
      | (dsimp only; omega)
      | decide
      | (show (0 : Int) < _; omega)
      | (show (0 : Int) < _; simp only [w64] at *; omega)
      | (simp only [w32, w64] at *; omega)
      | (first | omega | ((try dsimp only); (first | omega | (simp (disch := omega) only [w32_id, w64_id]; omega) | (simp only [w32, w64]; omega) | (with_reducible refine (and32_le ?_ ?_).1 <;> omega) | (with_reducible refine (and32_le ?_ ?_).2 <;> omega) | (with_reducible refine (mulR ?_ ?_ ?_ ?_).1 <;> omega) | (with_reducible refine (mulR ?_ ?_ ?_ ?_).2 <;> omega) | (simp only [w32, w64] at *; omega) | (simp (disch := omega) only [w32_id, w64_id] at *; omega) | (simp (disch := omega) only [tdiv_nn, tmod_nn, w32_id, w64_id] at *; omega) | (subst_vars; simp [upZ] at *; omega) | (subst_vars; simp [upZ] at *; simp only [w32, w64] at *; omega))) | fail)
      | ((with_reducible show swT _ _ _ _); exact trivial)
      | rfl
      | ((fail_if_success (first | (with_reducible show _ ≤ _) | (with_reducible show _ = _) | (with_reducible show _ ∨ _) | (with_reducible show _ < _) | (with_reducible show G _ _ _ _) | (with_reducible show Exists _))); exact trivial)
      | skip
