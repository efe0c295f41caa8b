/-! ===== numbers: what the class makes ===== -/
def s_X0_termMadeN : Sp := rPL 6 0 (fun as Z => match as with
    | [.inr (.inr a0), .inr (.inr a1), .inr (.inr a2), .inl a3, .inl a4, .inl a5] => (((a0 = 70 ∧ a1 = 2 ∧ a2 = 18) ∨ (a0 = 72 ∧ a1 = 2 ∧ a2 = 18) ∨ (a0 = 74 ∧ a1 = 2 ∧ a2 = 18) ∨ (a0 = 76 ∧ a1 = 4 ∧ a2 = 18))) ∧ (True) ∧ (True) ∧ ((0 ≤ a3 ∧ a3 ≤ 79)) ∧ (True) ∧ (True) ∧ (Z a0 0 = rmB a0) ∧ (NRW Z a1) ∧ (NC (Z 27 a3.toNat)) ∧ (Z 28 a3.toNat = -1 ∨ NC (Z 28 a3.toNat)) ∧ (1 ≤ a4 ∧ a4 ≤ 12) ∧ (0 ≤ a5 ∧ a5 < Z a1 2) ∧ (Z a1 2 ≤ rmB a0) ∧ True
    | _ => False) (fun as Z (x : Int) => match as with
    | [.inr (.inr a0), .inr (.inr a1), .inr (.inr a2), .inl a3, .inl a4, .inl a5] => (x = oV (tmV (envN Z a1) (BR Z a0) a3.toNat a4.toNat a5.toNat)) ∧ True
    | _ => False)
set_option maxRecDepth 100000 in
set_option maxHeartbeats 40000000 in
theorem c_X0_termMadeN {l : Launch} {D : va_G} {cA : Nat → ClassId} : PM l D cA yX0_termMade cX0_termMade 11 (some .long) 2 51 s_X0_termMadeN := by
  refine of_X0_termMade (c_X0_namedN) ⟨rfl, rfl⟩ (c_J9_absL) ⟨rfl, rfl⟩ (fun as σ hwf hao hpre => ?_)
  obtain ⟨n, Z, R⟩ := σ
  obtain ⟨hR, hI, hpre⟩ := hpre
  obtain rfl : R = R0 := hR
  (try replace hI : CI Z := hI)
  rcases as with _ | ⟨x | x | a0, _ | ⟨x | x | a1, _ | ⟨x | x | a2, _ | ⟨a3 | x | x, _ | ⟨a4 | x | x, _ | ⟨a5 | x | x, _ | ⟨v, t⟩⟩⟩⟩⟩⟩⟩ <;> first | exact (hpre : False).elim | skip
  obtain ⟨k3l, k3u⟩ : okI a3 := hao (vi a3) (by simp)
  obtain ⟨k4l, k4u⟩ : okI a4 := hao (vi a4) (by simp)
  obtain ⟨k5l, k5u⟩ : okI a5 := hao (vi a5) (by simp)
  obtain ⟨h0, h1, h2, h3, h4, h5, q0, q1, q2, q3, q4, q5, q6, -⟩ := hpre
  have hk : kp ([]) Z Z := kp_refl
  refine ⟨Nat.le_of_ble_eq_true rfl, fun G hG => ?_⟩
  have hw : ∀ o k : Nat, (fK o).1 ≠ 1 → okI (Z o k) := fun o k => (hwf.1 o k).2
  clear hao hwf
  (try dsimp only at q0)
  (try dsimp only at q1)
  (try dsimp only at q2)
  (try dsimp only at q3)
  (try dsimp only at q4)
  (try dsimp only at q5)
  (try dsimp only at q6)
  rcases h0 with ⟨rfl, rfl, rfl⟩ | ⟨rfl, rfl, rfl⟩ | ⟨rfl, rfl, rfl⟩ | ⟨rfl, rfl, rfl⟩
  · have hnei : NEI (envN Z 2) (BR Z 70) := NEI_c hw (by decide)
    refine wq_run hG n R0 [] 900 _ _ _ _ ?_
    repeat' (first
        | with_reducible rfl
        | refine And.intro ?_ ?_
        | with_reducible exact True.intro
        | ((with_reducible show _ = true); rfl)
        | ((with_reducible show recvG _ _); rfl)
        | ((with_reducible show CI _); first | with_reducible assumption | assumption)
        | (fail_if_success (first | (with_reducible show _ ≤ _) | (with_reducible show _ = _) | (with_reducible show _ ∨ _) | (with_reducible show _ < _) | (with_reducible show G _ _ _ _))
           first
           | show G _ _ _ _
           | (refine ld_bnd (by assumption) rfl ?_; intro (x : Int) _ _ hx; (try dsimp only at hx); (try simp only [Nat.reduceAdd] at hx); subst hx)
           | (intro (x : Int) hx; (try dsimp only at hx); (try simp only [Nat.reduceAdd] at hx); subst hx)
           | (refine ld_bnd (by first | with_reducible assumption | assumption) rfl ?_; intro _ _ _ hld; (try dsimp only at hld); (try simp only [Nat.reduceAdd] at hld))
           | (refine st_k (by first | with_reducible assumption | assumption) (by first | with_reducible assumption | assumption) (by first | exact Or.inl (by decide) | exact Or.inr (by decide)) (fun lo hi hb => by first | (cases hb; done) | (cases hb; constructor <;> (first | omega | ((try dsimp only); (first | omega | (simp (disch := omega) only [w32_id, w64_id]; omega) | (simp only [w32, w64]; omega) | (with_reducible refine (and32_le ?_ ?_).1 <;> omega) | (with_reducible refine (and32_le ?_ ?_).2 <;> omega) | (with_reducible refine (mulR ?_ ?_ ?_ ?_).1 <;> omega) | (with_reducible refine (mulR ?_ ?_ ?_ ?_).2 <;> omega) | (simp only [w32, w64] at *; omega) | (simp (disch := omega) only [w32_id, w64_id] at *; omega) | (simp (disch := omega) only [tdiv_nn, tmod_nn, w32_id, w64_id] at *; omega) | (subst_vars; simp [upZ] at *; omega) | (subst_vars; simp [upZ] at *; simp only [w32, w64] at *; omega))) | fail))) ?_; intro Z' _ hkk; intro hld; (try dsimp only at hld); (try simp only [Nat.reduceAdd] at hld); intro hup; (try dsimp only at hup))
           | (refine st_k (by first | with_reducible assumption | assumption) (by first | with_reducible assumption | assumption) (by first | exact Or.inl (by decide) | exact Or.inr (by decide)) (fun lo hi hb => ?_) ?_; (cases hb; refine And.intro ?_ ?_))
           | refine st_same ?_
           | (intro (r : Option PV) σ' hq
              first
              | (obtain ⟨rfl, x, rfl, hp⟩ := hq; (try replace hp : _ ∧ _ := hp); (try dsimp only at hp); (first | (have hv0 := hv; have hu := hp.1) | (have hv := hp.1; have hvr := nmW_r (e := envN Z 2) (R := BR Z 70) (a := mN (Z 27 a3.toNat)) (s := a4.toNat) (c := a5.toNat) hnei; rw [← hv] at hvr) | skip))
              | (obtain ⟨Z', (o : Nat), rfl, rfl, hI2, hk2, ⟨⟨hp, rfl⟩ | ⟨hp, rfl⟩, -⟩⟩ := hq <;> ((first | have hk3 := kp_to (by first | with_reducible assumption | assumption) (by rfl) hk2 | have hk3 := ks_to (by first | with_reducible assumption | assumption) (by rfl) hk2); clear hk2))
              | (obtain ⟨Z', x, rfl, rfl, hI2, hk2, hp⟩ := hq; (try replace hp : _ ∧ _ := hp); (try dsimp only at hp); (first | have hk3 := kp_to (by first | with_reducible assumption | assumption) (by rfl) hk2 | have hk3 := ks_to (by first | with_reducible assumption | assumption) (by rfl) hk2); clear hk2; (first | (have hv0 := hv; have hu := hp.1) | (have hv := hp.1; have hvr := nmW_r (e := envN Z 2) (R := BR Z 70) (a := mN (Z 27 a3.toNat)) (s := a4.toNat) (c := a5.toNat) hnei; rw [← hv] at hvr) | skip))
              | (obtain ⟨Z', rfl, rfl, hI2, hk2, hp⟩ := hq; (try replace hp : _ ∧ _ := hp); (try dsimp only at hp); (first | have hk3 := kp_to (by first | with_reducible assumption | assumption) (by rfl) hk2 | have hk3 := ks_to (by first | with_reducible assumption | assumption) (by rfl) hk2); clear hk2; (first | (have hv0 := hv; have hu := hp.1) | (have hv := hp.1; have hvr := nmW_r (e := envN Z 2) (R := BR Z 70) (a := mN (Z 27 a3.toNat)) (s := a4.toNat) (c := a5.toNat) hnei; rw [← hv] at hvr) | skip))
              | (obtain ⟨rfl, rfl⟩ := hq)
              | (obtain ⟨Z', x, rfl, rfl, hI2, hk2⟩ := hq; have hkn := keeps_nil hk2; clear hk2; subst hkn)
              | (obtain ⟨Z', x, rfl, rfl, hI2, hk2⟩ := hq; (first | have hk3 := kp_to (by first | with_reducible assumption | assumption) (by rfl) hk2 | have hk3 := ks_to (by first | with_reducible assumption | assumption) (by rfl) hk2); clear hk2)
              | (rcases hq with ⟨Z', rfl, rfl, hI2, hk2⟩ | ⟨Z', rfl, rfl, hI2, hk2⟩ <;> ((first | have hk3 := kp_to (by first | with_reducible assumption | assumption) (by rfl) hk2 | have hk3 := ks_to (by first | with_reducible assumption | assumption) (by rfl) hk2); clear hk2))
              | (obtain ⟨Z', rfl, rfl, hI2, hk2⟩ := hq; (first | have hk3 := kp_to (by first | with_reducible assumption | assumption) (by rfl) hk2 | have hk3 := ks_to (by first | with_reducible assumption | assumption) (by rfl) hk2); clear hk2))
           | (intro hc; (try simp only [cmp3_c] at hc); simp only [cmpI] at hc)
           | (show CI _; assumption)
           | intro (_ : Int)
           | intro (Z' : ZT)
           | intro (_ : CI _)
           | (intro (hkk : kp _ _ _))
           | intro (_ : _ ≤ _)
           | (intro (hup : _ = upZ _ _ _ _); (try dsimp only at hup))
           | (intro (hld : _ = _); (try dsimp only at hld); (try simp only [Nat.reduceAdd] at hld))
           | intro (_ : _ < _)
           | intro (_ : _ ≠ _)
           | intro (_ : _ ∨ _)))
    all_goals first
      | with_reducible rfl
      | ((with_reducible show _ = _); rfl)
      | ((with_reducible show recvG _ _); rfl)
      | with_reducible exact trivial
      | with_reducible assumption
      | ((with_reducible show NC _); first | exact q2 | (rcases q3 with h | h; (exfalso; omega); exact h))
      | exact q0
      | exact q1
      | ((fail_if_success (first | (with_reducible show _ ≤ _) | (with_reducible show _ = _) | (with_reducible show _ ∨ _) | (with_reducible show _ < _) | (with_reducible show G _ _ _ _))); (refine Exists.intro _ (And.intro rfl ?_); (refine ⟨?_, trivial⟩; (first | done | focus (first | (dsimp only; done) | ((try dsimp only); ((first | (rw [tm_v (e := envN Z 2) (t := a3.toNat) hv (by omega)]; rfl) | (rw [tm_u (e := envN Z 2) (t := a3.toNat) (mN_nc (by (rcases q3 with h | h; (exfalso; omega); exact h))).1 hu (by omega)]; rfl) | (have ht_ := tm_q (e := envN Z 2) (t := a3.toNat) hv (by omega) (Or.inr ⟨(mN_nc (by (rcases q3 with h | h; (exfalso; omega); exact h))).1, hu, by omega⟩) rfl; first | exact tm_f ht_ (Or.inl ⟨Int.not_le.mp (by assumption), rfl⟩) | exact tm_f ht_ (Or.inr (Or.inl ⟨by assumption, Int.not_le.mp (by assumption), rfl⟩)) | exact tm_f ht_ (Or.inr (Or.inr ⟨by assumption, by assumption, rfl⟩))) | (have ht_ := tm_q (e := envN Z 2) (t := a3.toNat) hv (by omega) (Or.inl ⟨(show mN (Z 28 a3.toNat) < 0 from by (rw [show Z 28 a3.toNat = -1 by omega]; decide)), rfl⟩) (tm_1 hvr); first | exact tm_f ht_ (Or.inl ⟨Int.not_le.mp (by assumption), rfl⟩) | exact tm_f ht_ (Or.inr (Or.inl ⟨by assumption, Int.not_le.mp (by assumption), rfl⟩)) | exact tm_f ht_ (Or.inr (Or.inr ⟨by assumption, by assumption, rfl⟩))) | fail))))))))
      | omega
      | (dsimp only; omega)
      | decide
      | (show (0 : Int) < _; omega)
      | (show (0 : Int) < _; simp only [w64] at *; omega)
      | (simp only [w32, w64] at *; omega)
      | (first | omega | ((try dsimp only); (first | omega | (simp (disch := omega) only [w32_id, w64_id]; omega) | (simp only [w32, w64]; omega) | (with_reducible refine (and32_le ?_ ?_).1 <;> omega) | (with_reducible refine (and32_le ?_ ?_).2 <;> omega) | (with_reducible refine (mulR ?_ ?_ ?_ ?_).1 <;> omega) | (with_reducible refine (mulR ?_ ?_ ?_ ?_).2 <;> omega) | (simp only [w32, w64] at *; omega) | (simp (disch := omega) only [w32_id, w64_id] at *; omega) | (simp (disch := omega) only [tdiv_nn, tmod_nn, w32_id, w64_id] at *; omega) | (subst_vars; simp [upZ] at *; omega) | (subst_vars; simp [upZ] at *; simp only [w32, w64] at *; omega))) | fail)
      | ((with_reducible show swT _ _ _ _); exact trivial)
      | rfl
      | ((fail_if_success (first | (with_reducible show _ ≤ _) | (with_reducible show _ = _) | (with_reducible show _ ∨ _) | (with_reducible show _ < _) | (with_reducible show G _ _ _ _) | (with_reducible show Exists _))); exact trivial)
      | skip
  · have hnei : NEI (envN Z 2) (BR Z 72) := NEI_c hw (by decide)
    refine wq_run hG n R0 [] 900 _ _ _ _ ?_
    repeat' (first
        | with_reducible rfl
        | refine And.intro ?_ ?_
        | with_reducible exact True.intro
        | ((with_reducible show _ = true); rfl)
        | ((with_reducible show recvG _ _); rfl)
        | ((with_reducible show CI _); first | with_reducible assumption | assumption)
        | (fail_if_success (first | (with_reducible show _ ≤ _) | (with_reducible show _ = _) | (with_reducible show _ ∨ _) | (with_reducible show _ < _) | (with_reducible show G _ _ _ _))
           first
           | show G _ _ _ _
           | (refine ld_bnd (by assumption) rfl ?_; intro (x : Int) _ _ hx; (try dsimp only at hx); (try simp only [Nat.reduceAdd] at hx); subst hx)
           | (intro (x : Int) hx; (try dsimp only at hx); (try simp only [Nat.reduceAdd] at hx); subst hx)
           | (refine ld_bnd (by first | with_reducible assumption | assumption) rfl ?_; intro _ _ _ hld; (try dsimp only at hld); (try simp only [Nat.reduceAdd] at hld))
           | (refine st_k (by first | with_reducible assumption | assumption) (by first | with_reducible assumption | assumption) (by first | exact Or.inl (by decide) | exact Or.inr (by decide)) (fun lo hi hb => by first | (cases hb; done) | (cases hb; constructor <;> (first | omega | ((try dsimp only); (first | omega | (simp (disch := omega) only [w32_id, w64_id]; omega) | (simp only [w32, w64]; omega) | (with_reducible refine (and32_le ?_ ?_).1 <;> omega) | (with_reducible refine (and32_le ?_ ?_).2 <;> omega) | (with_reducible refine (mulR ?_ ?_ ?_ ?_).1 <;> omega) | (with_reducible refine (mulR ?_ ?_ ?_ ?_).2 <;> omega) | (simp only [w32, w64] at *; omega) | (simp (disch := omega) only [w32_id, w64_id] at *; omega) | (simp (disch := omega) only [tdiv_nn, tmod_nn, w32_id, w64_id] at *; omega) | (subst_vars; simp [upZ] at *; omega) | (subst_vars; simp [upZ] at *; simp only [w32, w64] at *; omega))) | fail))) ?_; intro Z' _ hkk; intro hld; (try dsimp only at hld); (try simp only [Nat.reduceAdd] at hld); intro hup; (try dsimp only at hup))
           | (refine st_k (by first | with_reducible assumption | assumption) (by first | with_reducible assumption | assumption) (by first | exact Or.inl (by decide) | exact Or.inr (by decide)) (fun lo hi hb => ?_) ?_; (cases hb; refine And.intro ?_ ?_))
           | refine st_same ?_
           | (intro (r : Option PV) σ' hq
              first
              | (obtain ⟨rfl, x, rfl, hp⟩ := hq; (try replace hp : _ ∧ _ := hp); (try dsimp only at hp); (first | (have hv0 := hv; have hu := hp.1) | (have hv := hp.1; have hvr := nmW_r (e := envN Z 2) (R := BR Z 72) (a := mN (Z 27 a3.toNat)) (s := a4.toNat) (c := a5.toNat) hnei; rw [← hv] at hvr) | skip))
              | (obtain ⟨Z', (o : Nat), rfl, rfl, hI2, hk2, ⟨⟨hp, rfl⟩ | ⟨hp, rfl⟩, -⟩⟩ := hq <;> ((first | have hk3 := kp_to (by first | with_reducible assumption | assumption) (by rfl) hk2 | have hk3 := ks_to (by first | with_reducible assumption | assumption) (by rfl) hk2); clear hk2))
              | (obtain ⟨Z', x, rfl, rfl, hI2, hk2, hp⟩ := hq; (try replace hp : _ ∧ _ := hp); (try dsimp only at hp); (first | have hk3 := kp_to (by first | with_reducible assumption | assumption) (by rfl) hk2 | have hk3 := ks_to (by first | with_reducible assumption | assumption) (by rfl) hk2); clear hk2; (first | (have hv0 := hv; have hu := hp.1) | (have hv := hp.1; have hvr := nmW_r (e := envN Z 2) (R := BR Z 72) (a := mN (Z 27 a3.toNat)) (s := a4.toNat) (c := a5.toNat) hnei; rw [← hv] at hvr) | skip))
              | (obtain ⟨Z', rfl, rfl, hI2, hk2, hp⟩ := hq; (try replace hp : _ ∧ _ := hp); (try dsimp only at hp); (first | have hk3 := kp_to (by first | with_reducible assumption | assumption) (by rfl) hk2 | have hk3 := ks_to (by first | with_reducible assumption | assumption) (by rfl) hk2); clear hk2; (first | (have hv0 := hv; have hu := hp.1) | (have hv := hp.1; have hvr := nmW_r (e := envN Z 2) (R := BR Z 72) (a := mN (Z 27 a3.toNat)) (s := a4.toNat) (c := a5.toNat) hnei; rw [← hv] at hvr) | skip))
              | (obtain ⟨rfl, rfl⟩ := hq)
              | (obtain ⟨Z', x, rfl, rfl, hI2, hk2⟩ := hq; have hkn := keeps_nil hk2; clear hk2; subst hkn)
              | (obtain ⟨Z', x, rfl, rfl, hI2, hk2⟩ := hq; (first | have hk3 := kp_to (by first | with_reducible assumption | assumption) (by rfl) hk2 | have hk3 := ks_to (by first | with_reducible assumption | assumption) (by rfl) hk2); clear hk2)
              | (rcases hq with ⟨Z', rfl, rfl, hI2, hk2⟩ | ⟨Z', rfl, rfl, hI2, hk2⟩ <;> ((first | have hk3 := kp_to (by first | with_reducible assumption | assumption) (by rfl) hk2 | have hk3 := ks_to (by first | with_reducible assumption | assumption) (by rfl) hk2); clear hk2))
              | (obtain ⟨Z', rfl, rfl, hI2, hk2⟩ := hq; (first | have hk3 := kp_to (by first | with_reducible assumption | assumption) (by rfl) hk2 | have hk3 := ks_to (by first | with_reducible assumption | assumption) (by rfl) hk2); clear hk2))
           | (intro hc; (try simp only [cmp3_c] at hc); simp only [cmpI] at hc)
           | (show CI _; assumption)
           | intro (_ : Int)
           | intro (Z' : ZT)
           | intro (_ : CI _)
           | (intro (hkk : kp _ _ _))
           | intro (_ : _ ≤ _)
           | (intro (hup : _ = upZ _ _ _ _); (try dsimp only at hup))
           | (intro (hld : _ = _); (try dsimp only at hld); (try simp only [Nat.reduceAdd] at hld))
           | intro (_ : _ < _)
           | intro (_ : _ ≠ _)
           | intro (_ : _ ∨ _)))
    all_goals first
      | with_reducible rfl
      | ((with_reducible show _ = _); rfl)
      | ((with_reducible show recvG _ _); rfl)
      | with_reducible exact trivial
      | with_reducible assumption
      | ((with_reducible show NC _); first | exact q2 | (rcases q3 with h | h; (exfalso; omega); exact h))
      | exact q0
      | exact q1
      | ((fail_if_success (first | (with_reducible show _ ≤ _) | (with_reducible show _ = _) | (with_reducible show _ ∨ _) | (with_reducible show _ < _) | (with_reducible show G _ _ _ _))); (refine Exists.intro _ (And.intro rfl ?_); (refine ⟨?_, trivial⟩; (first | done | focus (first | (dsimp only; done) | ((try dsimp only); ((first | (rw [tm_v (e := envN Z 2) (t := a3.toNat) hv (by omega)]; rfl) | (rw [tm_u (e := envN Z 2) (t := a3.toNat) (mN_nc (by (rcases q3 with h | h; (exfalso; omega); exact h))).1 hu (by omega)]; rfl) | (have ht_ := tm_q (e := envN Z 2) (t := a3.toNat) hv (by omega) (Or.inr ⟨(mN_nc (by (rcases q3 with h | h; (exfalso; omega); exact h))).1, hu, by omega⟩) rfl; first | exact tm_f ht_ (Or.inl ⟨Int.not_le.mp (by assumption), rfl⟩) | exact tm_f ht_ (Or.inr (Or.inl ⟨by assumption, Int.not_le.mp (by assumption), rfl⟩)) | exact tm_f ht_ (Or.inr (Or.inr ⟨by assumption, by assumption, rfl⟩))) | (have ht_ := tm_q (e := envN Z 2) (t := a3.toNat) hv (by omega) (Or.inl ⟨(show mN (Z 28 a3.toNat) < 0 from by (rw [show Z 28 a3.toNat = -1 by omega]; decide)), rfl⟩) (tm_1 hvr); first | exact tm_f ht_ (Or.inl ⟨Int.not_le.mp (by assumption), rfl⟩) | exact tm_f ht_ (Or.inr (Or.inl ⟨by assumption, Int.not_le.mp (by assumption), rfl⟩)) | exact tm_f ht_ (Or.inr (Or.inr ⟨by assumption, by assumption, rfl⟩))) | fail))))))))
      | omega
      | (dsimp only; omega)
      | decide
      | (show (0 : Int) < _; omega)
      | (show (0 : Int) < _; simp only [w64] at *; omega)
      | (simp only [w32, w64] at *; omega)
      | (first | omega | ((try dsimp only); (first | omega | (simp (disch := omega) only [w32_id, w64_id]; omega) | (simp only [w32, w64]; omega) | (with_reducible refine (and32_le ?_ ?_).1 <;> omega) | (with_reducible refine (and32_le ?_ ?_).2 <;> omega) | (with_reducible refine (mulR ?_ ?_ ?_ ?_).1 <;> omega) | (with_reducible refine (mulR ?_ ?_ ?_ ?_).2 <;> omega) | (simp only [w32, w64] at *; omega) | (simp (disch := omega) only [w32_id, w64_id] at *; omega) | (simp (disch := omega) only [tdiv_nn, tmod_nn, w32_id, w64_id] at *; omega) | (subst_vars; simp [upZ] at *; omega) | (subst_vars; simp [upZ] at *; simp only [w32, w64] at *; omega))) | fail)
      | ((with_reducible show swT _ _ _ _); exact trivial)
      | rfl
      | ((fail_if_success (first | (with_reducible show _ ≤ _) | (with_reducible show _ = _) | (with_reducible show _ ∨ _) | (with_reducible show _ < _) | (with_reducible show G _ _ _ _) | (with_reducible show Exists _))); exact trivial)
      | skip
  · have hnei : NEI (envN Z 2) (BR Z 74) := NEI_c hw (by decide)
    refine wq_run hG n R0 [] 900 _ _ _ _ ?_
    repeat' (first
        | with_reducible rfl
        | refine And.intro ?_ ?_
        | with_reducible exact True.intro
        | ((with_reducible show _ = true); rfl)
        | ((with_reducible show recvG _ _); rfl)
        | ((with_reducible show CI _); first | with_reducible assumption | assumption)
        | (fail_if_success (first | (with_reducible show _ ≤ _) | (with_reducible show _ = _) | (with_reducible show _ ∨ _) | (with_reducible show _ < _) | (with_reducible show G _ _ _ _))
           first
           | show G _ _ _ _
           | (refine ld_bnd (by assumption) rfl ?_; intro (x : Int) _ _ hx; (try dsimp only at hx); (try simp only [Nat.reduceAdd] at hx); subst hx)
           | (intro (x : Int) hx; (try dsimp only at hx); (try simp only [Nat.reduceAdd] at hx); subst hx)
           | (refine ld_bnd (by first | with_reducible assumption | assumption) rfl ?_; intro _ _ _ hld; (try dsimp only at hld); (try simp only [Nat.reduceAdd] at hld))
           | (refine st_k (by first | with_reducible assumption | assumption) (by first | with_reducible assumption | assumption) (by first | exact Or.inl (by decide) | exact Or.inr (by decide)) (fun lo hi hb => by first | (cases hb; done) | (cases hb; constructor <;> (first | omega | ((try dsimp only); (first | omega | (simp (disch := omega) only [w32_id, w64_id]; omega) | (simp only [w32, w64]; omega) | (with_reducible refine (and32_le ?_ ?_).1 <;> omega) | (with_reducible refine (and32_le ?_ ?_).2 <;> omega) | (with_reducible refine (mulR ?_ ?_ ?_ ?_).1 <;> omega) | (with_reducible refine (mulR ?_ ?_ ?_ ?_).2 <;> omega) | (simp only [w32, w64] at *; omega) | (simp (disch := omega) only [w32_id, w64_id] at *; omega) | (simp (disch := omega) only [tdiv_nn, tmod_nn, w32_id, w64_id] at *; omega) | (subst_vars; simp [upZ] at *; omega) | (subst_vars; simp [upZ] at *; simp only [w32, w64] at *; omega))) | fail))) ?_; intro Z' _ hkk; intro hld; (try dsimp only at hld); (try simp only [Nat.reduceAdd] at hld); intro hup; (try dsimp only at hup))
           | (refine st_k (by first | with_reducible assumption | assumption) (by first | with_reducible assumption | assumption) (by first | exact Or.inl (by decide) | exact Or.inr (by decide)) (fun lo hi hb => ?_) ?_; (cases hb; refine And.intro ?_ ?_))
           | refine st_same ?_
           | (intro (r : Option PV) σ' hq
              first
              | (obtain ⟨rfl, x, rfl, hp⟩ := hq; (try replace hp : _ ∧ _ := hp); (try dsimp only at hp); (first | (have hv0 := hv; have hu := hp.1) | (have hv := hp.1; have hvr := nmW_r (e := envN Z 2) (R := BR Z 74) (a := mN (Z 27 a3.toNat)) (s := a4.toNat) (c := a5.toNat) hnei; rw [← hv] at hvr) | skip))
              | (obtain ⟨Z', (o : Nat), rfl, rfl, hI2, hk2, ⟨⟨hp, rfl⟩ | ⟨hp, rfl⟩, -⟩⟩ := hq <;> ((first | have hk3 := kp_to (by first | with_reducible assumption | assumption) (by rfl) hk2 | have hk3 := ks_to (by first | with_reducible assumption | assumption) (by rfl) hk2); clear hk2))
              | (obtain ⟨Z', x, rfl, rfl, hI2, hk2, hp⟩ := hq; (try replace hp : _ ∧ _ := hp); (try dsimp only at hp); (first | have hk3 := kp_to (by first | with_reducible assumption | assumption) (by rfl) hk2 | have hk3 := ks_to (by first | with_reducible assumption | assumption) (by rfl) hk2); clear hk2; (first | (have hv0 := hv; have hu := hp.1) | (have hv := hp.1; have hvr := nmW_r (e := envN Z 2) (R := BR Z 74) (a := mN (Z 27 a3.toNat)) (s := a4.toNat) (c := a5.toNat) hnei; rw [← hv] at hvr) | skip))
              | (obtain ⟨Z', rfl, rfl, hI2, hk2, hp⟩ := hq; (try replace hp : _ ∧ _ := hp); (try dsimp only at hp); (first | have hk3 := kp_to (by first | with_reducible assumption | assumption) (by rfl) hk2 | have hk3 := ks_to (by first | with_reducible assumption | assumption) (by rfl) hk2); clear hk2; (first | (have hv0 := hv; have hu := hp.1) | (have hv := hp.1; have hvr := nmW_r (e := envN Z 2) (R := BR Z 74) (a := mN (Z 27 a3.toNat)) (s := a4.toNat) (c := a5.toNat) hnei; rw [← hv] at hvr) | skip))
              | (obtain ⟨rfl, rfl⟩ := hq)
              | (obtain ⟨Z', x, rfl, rfl, hI2, hk2⟩ := hq; have hkn := keeps_nil hk2; clear hk2; subst hkn)
              | (obtain ⟨Z', x, rfl, rfl, hI2, hk2⟩ := hq; (first | have hk3 := kp_to (by first | with_reducible assumption | assumption) (by rfl) hk2 | have hk3 := ks_to (by first | with_reducible assumption | assumption) (by rfl) hk2); clear hk2)
              | (rcases hq with ⟨Z', rfl, rfl, hI2, hk2⟩ | ⟨Z', rfl, rfl, hI2, hk2⟩ <;> ((first | have hk3 := kp_to (by first | with_reducible assumption | assumption) (by rfl) hk2 | have hk3 := ks_to (by first | with_reducible assumption | assumption) (by rfl) hk2); clear hk2))
              | (obtain ⟨Z', rfl, rfl, hI2, hk2⟩ := hq; (first | have hk3 := kp_to (by first | with_reducible assumption | assumption) (by rfl) hk2 | have hk3 := ks_to (by first | with_reducible assumption | assumption) (by rfl) hk2); clear hk2))
           | (intro hc; (try simp only [cmp3_c] at hc); simp only [cmpI] at hc)
           | (show CI _; assumption)
           | intro (_ : Int)
           | intro (Z' : ZT)
           | intro (_ : CI _)
           | (intro (hkk : kp _ _ _))
           | intro (_ : _ ≤ _)
           | (intro (hup : _ = upZ _ _ _ _); (try dsimp only at hup))
           | (intro (hld : _ = _); (try dsimp only at hld); (try simp only [Nat.reduceAdd] at hld))
           | intro (_ : _ < _)
           | intro (_ : _ ≠ _)
           | intro (_ : _ ∨ _)))
    all_goals first
      | with_reducible rfl
      | ((with_reducible show _ = _); rfl)
      | ((with_reducible show recvG _ _); rfl)
      | with_reducible exact trivial
      | with_reducible assumption
      | ((with_reducible show NC _); first | exact q2 | (rcases q3 with h | h; (exfalso; omega); exact h))
      | exact q0
      | exact q1
      | ((fail_if_success (first | (with_reducible show _ ≤ _) | (with_reducible show _ = _) | (with_reducible show _ ∨ _) | (with_reducible show _ < _) | (with_reducible show G _ _ _ _))); (refine Exists.intro _ (And.intro rfl ?_); (refine ⟨?_, trivial⟩; (first | done | focus (first | (dsimp only; done) | ((try dsimp only); ((first | (rw [tm_v (e := envN Z 2) (t := a3.toNat) hv (by omega)]; rfl) | (rw [tm_u (e := envN Z 2) (t := a3.toNat) (mN_nc (by (rcases q3 with h | h; (exfalso; omega); exact h))).1 hu (by omega)]; rfl) | (have ht_ := tm_q (e := envN Z 2) (t := a3.toNat) hv (by omega) (Or.inr ⟨(mN_nc (by (rcases q3 with h | h; (exfalso; omega); exact h))).1, hu, by omega⟩) rfl; first | exact tm_f ht_ (Or.inl ⟨Int.not_le.mp (by assumption), rfl⟩) | exact tm_f ht_ (Or.inr (Or.inl ⟨by assumption, Int.not_le.mp (by assumption), rfl⟩)) | exact tm_f ht_ (Or.inr (Or.inr ⟨by assumption, by assumption, rfl⟩))) | (have ht_ := tm_q (e := envN Z 2) (t := a3.toNat) hv (by omega) (Or.inl ⟨(show mN (Z 28 a3.toNat) < 0 from by (rw [show Z 28 a3.toNat = -1 by omega]; decide)), rfl⟩) (tm_1 hvr); first | exact tm_f ht_ (Or.inl ⟨Int.not_le.mp (by assumption), rfl⟩) | exact tm_f ht_ (Or.inr (Or.inl ⟨by assumption, Int.not_le.mp (by assumption), rfl⟩)) | exact tm_f ht_ (Or.inr (Or.inr ⟨by assumption, by assumption, rfl⟩))) | fail))))))))
      | omega
      | (dsimp only; omega)
      | decide
      | (show (0 : Int) < _; omega)
      | (show (0 : Int) < _; simp only [w64] at *; omega)
      | (simp only [w32, w64] at *; omega)
      | (first | omega | ((try dsimp only); (first | omega | (simp (disch := omega) only [w32_id, w64_id]; omega) | (simp only [w32, w64]; omega) | (with_reducible refine (and32_le ?_ ?_).1 <;> omega) | (with_reducible refine (and32_le ?_ ?_).2 <;> omega) | (with_reducible refine (mulR ?_ ?_ ?_ ?_).1 <;> omega) | (with_reducible refine (mulR ?_ ?_ ?_ ?_).2 <;> omega) | (simp only [w32, w64] at *; omega) | (simp (disch := omega) only [w32_id, w64_id] at *; omega) | (simp (disch := omega) only [tdiv_nn, tmod_nn, w32_id, w64_id] at *; omega) | (subst_vars; simp [upZ] at *; omega) | (subst_vars; simp [upZ] at *; simp only [w32, w64] at *; omega))) | fail)
      | ((with_reducible show swT _ _ _ _); exact trivial)
      | rfl
      | ((fail_if_success (first | (with_reducible show _ ≤ _) | (with_reducible show _ = _) | (with_reducible show _ ∨ _) | (with_reducible show _ < _) | (with_reducible show G _ _ _ _) | (with_reducible show Exists _))); exact trivial)
      | skip
  · have hnei : NEI (envN Z 4) (BR Z 76) := NEI_c hw (by decide)
    refine wq_run hG n R0 [] 900 _ _ _ _ ?_
    repeat' (first
        | with_reducible rfl
        | refine And.intro ?_ ?_
        | with_reducible exact True.intro
        | ((with_reducible show _ = true); rfl)
        | ((with_reducible show recvG _ _); rfl)
        | ((with_reducible show CI _); first | with_reducible assumption | assumption)
        | (fail_if_success (first | (with_reducible show _ ≤ _) | (with_reducible show _ = _) | (with_reducible show _ ∨ _) | (with_reducible show _ < _) | (with_reducible show G _ _ _ _))
           first
           | show G _ _ _ _
           | (refine ld_bnd (by assumption) rfl ?_; intro (x : Int) _ _ hx; (try dsimp only at hx); (try simp only [Nat.reduceAdd] at hx); subst hx)
           | (intro (x : Int) hx; (try dsimp only at hx); (try simp only [Nat.reduceAdd] at hx); subst hx)
           | (refine ld_bnd (by first | with_reducible assumption | assumption) rfl ?_; intro _ _ _ hld; (try dsimp only at hld); (try simp only [Nat.reduceAdd] at hld))
           | (refine st_k (by first | with_reducible assumption | assumption) (by first | with_reducible assumption | assumption) (by first | exact Or.inl (by decide) | exact Or.inr (by decide)) (fun lo hi hb => by first | (cases hb; done) | (cases hb; constructor <;> (first | omega | ((try dsimp only); (first | omega | (simp (disch := omega) only [w32_id, w64_id]; omega) | (simp only [w32, w64]; omega) | (with_reducible refine (and32_le ?_ ?_).1 <;> omega) | (with_reducible refine (and32_le ?_ ?_).2 <;> omega) | (with_reducible refine (mulR ?_ ?_ ?_ ?_).1 <;> omega) | (with_reducible refine (mulR ?_ ?_ ?_ ?_).2 <;> omega) | (simp only [w32, w64] at *; omega) | (simp (disch := omega) only [w32_id, w64_id] at *; omega) | (simp (disch := omega) only [tdiv_nn, tmod_nn, w32_id, w64_id] at *; omega) | (subst_vars; simp [upZ] at *; omega) | (subst_vars; simp [upZ] at *; simp only [w32, w64] at *; omega))) | fail))) ?_; intro Z' _ hkk; intro hld; (try dsimp only at hld); (try simp only [Nat.reduceAdd] at hld); intro hup; (try dsimp only at hup))
           | (refine st_k (by first | with_reducible assumption | assumption) (by first | with_reducible assumption | assumption) (by first | exact Or.inl (by decide) | exact Or.inr (by decide)) (fun lo hi hb => ?_) ?_; (cases hb; refine And.intro ?_ ?_))
           | refine st_same ?_
           | (intro (r : Option PV) σ' hq
              first
              | (obtain ⟨rfl, x, rfl, hp⟩ := hq; (try replace hp : _ ∧ _ := hp); (try dsimp only at hp); (first | (have hv0 := hv; have hu := hp.1) | (have hv := hp.1; have hvr := nmW_r (e := envN Z 4) (R := BR Z 76) (a := mN (Z 27 a3.toNat)) (s := a4.toNat) (c := a5.toNat) hnei; rw [← hv] at hvr) | skip))
              | (obtain ⟨Z', (o : Nat), rfl, rfl, hI2, hk2, ⟨⟨hp, rfl⟩ | ⟨hp, rfl⟩, -⟩⟩ := hq <;> ((first | have hk3 := kp_to (by first | with_reducible assumption | assumption) (by rfl) hk2 | have hk3 := ks_to (by first | with_reducible assumption | assumption) (by rfl) hk2); clear hk2))
              | (obtain ⟨Z', x, rfl, rfl, hI2, hk2, hp⟩ := hq; (try replace hp : _ ∧ _ := hp); (try dsimp only at hp); (first | have hk3 := kp_to (by first | with_reducible assumption | assumption) (by rfl) hk2 | have hk3 := ks_to (by first | with_reducible assumption | assumption) (by rfl) hk2); clear hk2; (first | (have hv0 := hv; have hu := hp.1) | (have hv := hp.1; have hvr := nmW_r (e := envN Z 4) (R := BR Z 76) (a := mN (Z 27 a3.toNat)) (s := a4.toNat) (c := a5.toNat) hnei; rw [← hv] at hvr) | skip))
              | (obtain ⟨Z', rfl, rfl, hI2, hk2, hp⟩ := hq; (try replace hp : _ ∧ _ := hp); (try dsimp only at hp); (first | have hk3 := kp_to (by first | with_reducible assumption | assumption) (by rfl) hk2 | have hk3 := ks_to (by first | with_reducible assumption | assumption) (by rfl) hk2); clear hk2; (first | (have hv0 := hv; have hu := hp.1) | (have hv := hp.1; have hvr := nmW_r (e := envN Z 4) (R := BR Z 76) (a := mN (Z 27 a3.toNat)) (s := a4.toNat) (c := a5.toNat) hnei; rw [← hv] at hvr) | skip))
              | (obtain ⟨rfl, rfl⟩ := hq)
              | (obtain ⟨Z', x, rfl, rfl, hI2, hk2⟩ := hq; have hkn := keeps_nil hk2; clear hk2; subst hkn)
              | (obtain ⟨Z', x, rfl, rfl, hI2, hk2⟩ := hq; (first | have hk3 := kp_to (by first | with_reducible assumption | assumption) (by rfl) hk2 | have hk3 := ks_to (by first | with_reducible assumption | assumption) (by rfl) hk2); clear hk2)
              | (rcases hq with ⟨Z', rfl, rfl, hI2, hk2⟩ | ⟨Z', rfl, rfl, hI2, hk2⟩ <;> ((first | have hk3 := kp_to (by first | with_reducible assumption | assumption) (by rfl) hk2 | have hk3 := ks_to (by first | with_reducible assumption | assumption) (by rfl) hk2); clear hk2))
              | (obtain ⟨Z', rfl, rfl, hI2, hk2⟩ := hq; (first | have hk3 := kp_to (by first | with_reducible assumption | assumption) (by rfl) hk2 | have hk3 := ks_to (by first | with_reducible assumption | assumption) (by rfl) hk2); clear hk2))
           | (intro hc; (try simp only [cmp3_c] at hc); simp only [cmpI] at hc)
           | (show CI _; assumption)
           | intro (_ : Int)
           | intro (Z' : ZT)
           | intro (_ : CI _)
           | (intro (hkk : kp _ _ _))
           | intro (_ : _ ≤ _)
           | (intro (hup : _ = upZ _ _ _ _); (try dsimp only at hup))
           | (intro (hld : _ = _); (try dsimp only at hld); (try simp only [Nat.reduceAdd] at hld))
           | intro (_ : _ < _)
           | intro (_ : _ ≠ _)
           | intro (_ : _ ∨ _)))
    all_goals first
      | with_reducible rfl
      | ((with_reducible show _ = _); rfl)
      | ((with_reducible show recvG _ _); rfl)
      | with_reducible exact trivial
      | with_reducible assumption
      | ((with_reducible show NC _); first | exact q2 | (rcases q3 with h | h; (exfalso; omega); exact h))
      | exact q0
      | exact q1
      | ((fail_if_success (first | (with_reducible show _ ≤ _) | (with_reducible show _ = _) | (with_reducible show _ ∨ _) | (with_reducible show _ < _) | (with_reducible show G _ _ _ _))); (refine Exists.intro _ (And.intro rfl ?_); (refine ⟨?_, trivial⟩; (first | done | focus (first | (dsimp only; done) | ((try dsimp only); ((first | (rw [tm_v (e := envN Z 4) (t := a3.toNat) hv (by omega)]; rfl) | (rw [tm_u (e := envN Z 4) (t := a3.toNat) (mN_nc (by (rcases q3 with h | h; (exfalso; omega); exact h))).1 hu (by omega)]; rfl) | (have ht_ := tm_q (e := envN Z 4) (t := a3.toNat) hv (by omega) (Or.inr ⟨(mN_nc (by (rcases q3 with h | h; (exfalso; omega); exact h))).1, hu, by omega⟩) rfl; first | exact tm_f ht_ (Or.inl ⟨Int.not_le.mp (by assumption), rfl⟩) | exact tm_f ht_ (Or.inr (Or.inl ⟨by assumption, Int.not_le.mp (by assumption), rfl⟩)) | exact tm_f ht_ (Or.inr (Or.inr ⟨by assumption, by assumption, rfl⟩))) | (have ht_ := tm_q (e := envN Z 4) (t := a3.toNat) hv (by omega) (Or.inl ⟨(show mN (Z 28 a3.toNat) < 0 from by (rw [show Z 28 a3.toNat = -1 by omega]; decide)), rfl⟩) (tm_1 hvr); first | exact tm_f ht_ (Or.inl ⟨Int.not_le.mp (by assumption), rfl⟩) | exact tm_f ht_ (Or.inr (Or.inl ⟨by assumption, Int.not_le.mp (by assumption), rfl⟩)) | exact tm_f ht_ (Or.inr (Or.inr ⟨by assumption, by assumption, rfl⟩))) | fail))))))))
      | omega
      | (dsimp only; omega)
      | decide
      | (show (0 : Int) < _; omega)
      | (show (0 : Int) < _; simp only [w64] at *; omega)
      | (simp only [w32, w64] at *; omega)
      | (first | omega | ((try dsimp only); (first | omega | (simp (disch := omega) only [w32_id, w64_id]; omega) | (simp only [w32, w64]; omega) | (with_reducible refine (and32_le ?_ ?_).1 <;> omega) | (with_reducible refine (and32_le ?_ ?_).2 <;> omega) | (with_reducible refine (mulR ?_ ?_ ?_ ?_).1 <;> omega) | (with_reducible refine (mulR ?_ ?_ ?_ ?_).2 <;> omega) | (simp only [w32, w64] at *; omega) | (simp (disch := omega) only [w32_id, w64_id] at *; omega) | (simp (disch := omega) only [tdiv_nn, tmod_nn, w32_id, w64_id] at *; omega) | (subst_vars; simp [upZ] at *; omega) | (subst_vars; simp [upZ] at *; simp only [w32, w64] at *; omega))) | fail)
      | ((with_reducible show swT _ _ _ _); exact trivial)
      | rfl
      | ((fail_if_success (first | (with_reducible show _ ≤ _) | (with_reducible show _ = _) | (with_reducible show _ ∨ _) | (with_reducible show _ < _) | (with_reducible show G _ _ _ _) | (with_reducible show Exists _))); exact trivial)
      | skip
