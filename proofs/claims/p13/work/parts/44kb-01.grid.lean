/-! ===== the grid: what lies beside each cell ===== -/
def s_X3_foundX : Sp := rPI 5 3 (fun as Z => match as with
    | [.inr (.inr a0), .inl a1, .inl a2, .inl a3, .inl a4] => ((a0 = 2 ∨ a0 = 4)) ∧ (True) ∧ (True) ∧ (True) ∧ (True) ∧ (1 ≤ Z a0 0 ∧ Z a0 0 ≤ 6) ∧ (1 ≤ Z a0 1 ∧ Z a0 1 ≤ 6) ∧ (-1 ≤ a1 ∧ a1 ≤ 6) ∧ (-1 ≤ a2 ∧ a2 ≤ 6) ∧ True
    | _ => False) (fun as Z (x : Int) => match as with
    | [.inr (.inr a0), .inl a1, .inl a2, .inl a3, .inl a4] => (x = foundF (Z a0 0) (Z a0 1) a1 a2 a3 a4) ∧ True
    | _ => False)
set_option maxRecDepth 100000 in
set_option maxHeartbeats 40000000 in
theorem c_X3_foundX {l : Launch} {D : va_G} {cA : Nat → ClassId} : PM l D cA yX3_found cX3_found 7 (some .int) 0 0 s_X3_foundX := by
  refine of_X3_found  (fun as σ hwf hao hpre => ?_)
  obtain ⟨n, Z, R⟩ := σ
  obtain ⟨hR, hI, hpre⟩ := hpre
  obtain rfl : R = R0 := hR
  (try replace hI : CI Z := hI)
  rcases as with _ | ⟨x | x | a0, _ | ⟨a1 | x | x, _ | ⟨a2 | x | x, _ | ⟨a3 | x | x, _ | ⟨a4 | x | x, _ | ⟨v, t⟩⟩⟩⟩⟩⟩ <;> first | exact (hpre : False).elim | skip
  obtain ⟨k1l, k1u⟩ : okI a1 := hao (vi a1) (by simp)
  obtain ⟨k2l, k2u⟩ : okI a2 := hao (vi a2) (by simp)
  obtain ⟨k3l, k3u⟩ : okI a3 := hao (vi a3) (by simp)
  obtain ⟨k4l, k4u⟩ : okI a4 := hao (vi a4) (by simp)
  obtain ⟨h0, h1, h2, h3, h4, q0, q1, q2, q3, -⟩ := hpre
  have hk : kp ([]) Z Z := kp_refl
  refine ⟨Nat.le_of_ble_eq_true rfl, fun G hG => ?_⟩
  clear hao hwf
  (try dsimp only at q0)
  (try dsimp only at q1)
  (try dsimp only at q2)
  (try dsimp only at q3)
  rcases h0 with rfl | rfl
  · have c33 : ¬(0 ≤ a1 ∧ a1 < Z 2 0 ∧ 0 ≤ a2 ∧ a2 < Z 2 1) → G 33 [(0, vr 2), (1, vi a1), (2, vi a2), (3, vi a3), (4, vi a4)] [] (n, Z, R0) := fun hn => by
      refine wq_run hG n R0 [] 900 _ _ _ _ ?_
      repeat' (first
          | with_reducible rfl
          | refine And.intro ?_ ?_
          | with_reducible exact True.intro
          | ((with_reducible show _ = true); rfl)
          | ((with_reducible show recvG _ _); rfl)
          | ((with_reducible show CI _); first | with_reducible assumption | assumption)
          | (fail_if_success (first | (with_reducible show _ ≤ _) | (with_reducible show _ = _) | (with_reducible show _ ∨ _) | (with_reducible show _ < _) | (with_reducible show G _ _ _ _))
             first
             | show G _ _ _ _
             | (refine ld_bnd (by assumption) rfl ?_; intro (x : Int) _ _ hx; (try dsimp only at hx); subst hx)
             | (intro (x : Int) hx; (try dsimp only at hx); subst hx)
             | (refine ld_bnd (by first | with_reducible assumption | assumption) rfl ?_; intro _ _ _ hld; (try dsimp only at hld); (try simp only [Nat.reduceAdd] at hld))
             | (refine st_k (by first | with_reducible assumption | assumption) (by first | with_reducible assumption | assumption) (by first | exact Or.inl (by decide) | exact Or.inr (by decide)) (fun lo hi hb => by first | (cases hb; done) | (cases hb; constructor <;> (first | omega | ((try dsimp only); (first | omega | (simp (disch := omega) only [w32_id, w64_id]; omega) | (simp only [w32, w64]; omega) | (with_reducible refine (and32_le ?_ ?_).1 <;> omega) | (with_reducible refine (and32_le ?_ ?_).2 <;> omega) | (with_reducible refine (mulR ?_ ?_ ?_ ?_).1 <;> omega) | (with_reducible refine (mulR ?_ ?_ ?_ ?_).2 <;> omega) | (simp only [w32, w64] at *; omega) | (simp (disch := omega) only [w32_id, w64_id] at *; omega) | (simp (disch := omega) only [tdiv_nn, tmod_nn, w32_id, w64_id] at *; omega) | (subst_vars; simp [upZ] at *; omega) | (subst_vars; simp [upZ] at *; simp only [w32, w64] at *; omega))) | fail))) ?_; intro Z' _ hkk; intro hld; (try dsimp only at hld); (try simp only [Nat.reduceAdd] at hld); intro hup; (try dsimp only at hup))
             | (refine st_k (by first | with_reducible assumption | assumption) (by first | with_reducible assumption | assumption) (by first | exact Or.inl (by decide) | exact Or.inr (by decide)) (fun lo hi hb => ?_) ?_; (cases hb; refine And.intro ?_ ?_))
             | refine st_same ?_
             | (intro (r : Option PV) σ' hq
                first
                | (obtain ⟨rfl, x, rfl, hp⟩ := hq; (try replace hp : _ ∧ _ := hp); (try dsimp only at hp))
                | (obtain ⟨Z', (o : Nat), rfl, rfl, hI2, hk2, ⟨⟨hp, rfl⟩ | ⟨hp, rfl⟩, -⟩⟩ := hq <;> ((first | have hk3 := kp_to (by first | with_reducible assumption | assumption) (by rfl) hk2 | have hk3 := ks_to (by first | with_reducible assumption | assumption) (by rfl) hk2); clear hk2))
                | (obtain ⟨Z', x, rfl, rfl, hI2, hk2, hp⟩ := hq; (try replace hp : _ ∧ _ := hp); (try dsimp only at hp); (first | have hk3 := kp_to (by first | with_reducible assumption | assumption) (by rfl) hk2 | have hk3 := ks_to (by first | with_reducible assumption | assumption) (by rfl) hk2); clear hk2)
                | (obtain ⟨Z', rfl, rfl, hI2, hk2, hp⟩ := hq; (try replace hp : _ ∧ _ := hp); (try dsimp only at hp); (first | have hk3 := kp_to (by first | with_reducible assumption | assumption) (by rfl) hk2 | have hk3 := ks_to (by first | with_reducible assumption | assumption) (by rfl) hk2); clear hk2)
                | (obtain ⟨rfl, rfl⟩ := hq)
                | (obtain ⟨Z', x, rfl, rfl, hI2, hk2⟩ := hq; have hkn := keeps_nil hk2; clear hk2; subst hkn)
                | (obtain ⟨Z', x, rfl, rfl, hI2, hk2⟩ := hq; (first | have hk3 := kp_to (by first | with_reducible assumption | assumption) (by rfl) hk2 | have hk3 := ks_to (by first | with_reducible assumption | assumption) (by rfl) hk2); clear hk2)
                | (rcases hq with ⟨Z', rfl, rfl, hI2, hk2⟩ | ⟨Z', rfl, rfl, hI2, hk2⟩ <;> ((first | have hk3 := kp_to (by first | with_reducible assumption | assumption) (by rfl) hk2 | have hk3 := ks_to (by first | with_reducible assumption | assumption) (by rfl) hk2); clear hk2))
                | (obtain ⟨Z', rfl, rfl, hI2, hk2⟩ := hq; (first | have hk3 := kp_to (by first | with_reducible assumption | assumption) (by rfl) hk2 | have hk3 := ks_to (by first | with_reducible assumption | assumption) (by rfl) hk2); clear hk2))
             | (intro hc; (try simp only [cmp3_c] at hc); simp only [cmpI] at hc)
             | (show CI _; assumption)
             | intro (_ : Int)
             | intro (Z' : ZT)
             | intro (_ : CI _)
             | (intro (hkk : kp _ _ _))
             | intro (_ : _ ≤ _)
             | (intro (hup : _ = upZ _ _ _ _); (try dsimp only at hup))
             | (intro (hld : _ = _); (try dsimp only at hld); (try simp only [Nat.reduceAdd] at hld))
             | intro (_ : _ < _)
             | intro (_ : _ ≠ _)
             | intro (_ : _ ∨ _)))
      all_goals first
        | with_reducible rfl
        | ((with_reducible show _ = _); rfl)
        | ((with_reducible show recvG _ _); rfl)
        | with_reducible exact trivial
        | with_reducible assumption
        | ((fail_if_success (first | (with_reducible show _ ≤ _) | (with_reducible show _ = _) | (with_reducible show _ ∨ _) | (with_reducible show _ < _) | (with_reducible show G _ _ _ _))); (refine Exists.intro _ (And.intro rfl ?_); (refine ⟨?_, trivial⟩; (first | done | focus (first | (dsimp only; done) | ((try dsimp only); ((first | (exfalso; omega) | (unfold foundF; rw [if_pos ⟨by omega, by omega, by omega, by omega⟩]; have q := mulC q0.1 q0.2 (show 0 ≤ a2 by omega) (show a2 ≤ 5 by omega); simp (disch := omega) only [w32_id]) | (unfold foundF; rw [if_neg (by omega), if_pos (by omega)]) | (unfold foundF; rw [if_neg (by omega), if_neg (by omega), if_pos (by omega)]) | (unfold foundF; rw [if_neg (by omega), if_neg (by omega), if_neg (by omega)]; (repeat' split) <;> first | (exfalso; omega) | skip; all_goals ((first | have q := mulC q0.1 q0.2 (show 0 ≤ Z 2 1 - 1 by omega) (show Z 2 1 - 1 ≤ 5 by omega) | skip); (first | have q2 := mulC q0.1 q0.2 (show 0 ≤ a2 by omega) (show a2 ≤ 5 by omega) | skip); simp (disch := omega) only [w32_id]; first | done | omega)) | fail))))))))
        | omega
        | (dsimp only; omega)
        | decide
        | (show (0 : Int) < _; omega)
        | (show (0 : Int) < _; simp only [w64] at *; omega)
        | (simp only [w32, w64] at *; omega)
        | (first | omega | ((try dsimp only); (first | omega | (simp (disch := omega) only [w32_id, w64_id]; omega) | (simp only [w32, w64]; omega) | (with_reducible refine (and32_le ?_ ?_).1 <;> omega) | (with_reducible refine (and32_le ?_ ?_).2 <;> omega) | (with_reducible refine (mulR ?_ ?_ ?_ ?_).1 <;> omega) | (with_reducible refine (mulR ?_ ?_ ?_ ?_).2 <;> omega) | (simp only [w32, w64] at *; omega) | (simp (disch := omega) only [w32_id, w64_id] at *; omega) | (simp (disch := omega) only [tdiv_nn, tmod_nn, w32_id, w64_id] at *; omega) | (subst_vars; simp [upZ] at *; omega) | (subst_vars; simp [upZ] at *; simp only [w32, w64] at *; omega))) | fail)
        | ((with_reducible show swT _ _ _ _); exact trivial)
        | rfl
        | skip
    refine wq_run hG n R0 [33] 900 _ _ _ _ ?_
    repeat' (first
        | with_reducible rfl
        | refine And.intro ?_ ?_
        | with_reducible exact True.intro
        | ((with_reducible show _ = true); rfl)
        | ((with_reducible show recvG _ _); rfl)
        | ((with_reducible show CI _); first | with_reducible assumption | assumption)
        | (fail_if_success (first | (with_reducible show _ ≤ _) | (with_reducible show _ = _) | (with_reducible show _ ∨ _) | (with_reducible show _ < _) | (with_reducible show G _ _ _ _))
           first
           | show G _ _ _ _
           | (refine ld_bnd (by assumption) rfl ?_; intro (x : Int) _ _ hx; (try dsimp only at hx); subst hx)
           | (intro (x : Int) hx; (try dsimp only at hx); subst hx)
           | (refine ld_bnd (by first | with_reducible assumption | assumption) rfl ?_; intro _ _ _ hld; (try dsimp only at hld); (try simp only [Nat.reduceAdd] at hld))
           | (refine st_k (by first | with_reducible assumption | assumption) (by first | with_reducible assumption | assumption) (by first | exact Or.inl (by decide) | exact Or.inr (by decide)) (fun lo hi hb => by first | (cases hb; done) | (cases hb; constructor <;> (first | omega | ((try dsimp only); (first | omega | (simp (disch := omega) only [w32_id, w64_id]; omega) | (simp only [w32, w64]; omega) | (with_reducible refine (and32_le ?_ ?_).1 <;> omega) | (with_reducible refine (and32_le ?_ ?_).2 <;> omega) | (with_reducible refine (mulR ?_ ?_ ?_ ?_).1 <;> omega) | (with_reducible refine (mulR ?_ ?_ ?_ ?_).2 <;> omega) | (simp only [w32, w64] at *; omega) | (simp (disch := omega) only [w32_id, w64_id] at *; omega) | (simp (disch := omega) only [tdiv_nn, tmod_nn, w32_id, w64_id] at *; omega) | (subst_vars; simp [upZ] at *; omega) | (subst_vars; simp [upZ] at *; simp only [w32, w64] at *; omega))) | fail))) ?_; intro Z' _ hkk; intro hld; (try dsimp only at hld); (try simp only [Nat.reduceAdd] at hld); intro hup; (try dsimp only at hup))
           | (refine st_k (by first | with_reducible assumption | assumption) (by first | with_reducible assumption | assumption) (by first | exact Or.inl (by decide) | exact Or.inr (by decide)) (fun lo hi hb => ?_) ?_; (cases hb; refine And.intro ?_ ?_))
           | refine st_same ?_
           | (intro (r : Option PV) σ' hq
              first
              | (obtain ⟨rfl, x, rfl, hp⟩ := hq; (try replace hp : _ ∧ _ := hp); (try dsimp only at hp))
              | (obtain ⟨Z', (o : Nat), rfl, rfl, hI2, hk2, ⟨⟨hp, rfl⟩ | ⟨hp, rfl⟩, -⟩⟩ := hq <;> ((first | have hk3 := kp_to (by first | with_reducible assumption | assumption) (by rfl) hk2 | have hk3 := ks_to (by first | with_reducible assumption | assumption) (by rfl) hk2); clear hk2))
              | (obtain ⟨Z', x, rfl, rfl, hI2, hk2, hp⟩ := hq; (try replace hp : _ ∧ _ := hp); (try dsimp only at hp); (first | have hk3 := kp_to (by first | with_reducible assumption | assumption) (by rfl) hk2 | have hk3 := ks_to (by first | with_reducible assumption | assumption) (by rfl) hk2); clear hk2)
              | (obtain ⟨Z', rfl, rfl, hI2, hk2, hp⟩ := hq; (try replace hp : _ ∧ _ := hp); (try dsimp only at hp); (first | have hk3 := kp_to (by first | with_reducible assumption | assumption) (by rfl) hk2 | have hk3 := ks_to (by first | with_reducible assumption | assumption) (by rfl) hk2); clear hk2)
              | (obtain ⟨rfl, rfl⟩ := hq)
              | (obtain ⟨Z', x, rfl, rfl, hI2, hk2⟩ := hq; have hkn := keeps_nil hk2; clear hk2; subst hkn)
              | (obtain ⟨Z', x, rfl, rfl, hI2, hk2⟩ := hq; (first | have hk3 := kp_to (by first | with_reducible assumption | assumption) (by rfl) hk2 | have hk3 := ks_to (by first | with_reducible assumption | assumption) (by rfl) hk2); clear hk2)
              | (rcases hq with ⟨Z', rfl, rfl, hI2, hk2⟩ | ⟨Z', rfl, rfl, hI2, hk2⟩ <;> ((first | have hk3 := kp_to (by first | with_reducible assumption | assumption) (by rfl) hk2 | have hk3 := ks_to (by first | with_reducible assumption | assumption) (by rfl) hk2); clear hk2))
              | (obtain ⟨Z', rfl, rfl, hI2, hk2⟩ := hq; (first | have hk3 := kp_to (by first | with_reducible assumption | assumption) (by rfl) hk2 | have hk3 := ks_to (by first | with_reducible assumption | assumption) (by rfl) hk2); clear hk2))
           | (intro hc; (try simp only [cmp3_c] at hc); simp only [cmpI] at hc)
           | (show CI _; assumption)
           | intro (_ : Int)
           | intro (Z' : ZT)
           | intro (_ : CI _)
           | (intro (hkk : kp _ _ _))
           | intro (_ : _ ≤ _)
           | (intro (hup : _ = upZ _ _ _ _); (try dsimp only at hup))
           | (intro (hld : _ = _); (try dsimp only at hld); (try simp only [Nat.reduceAdd] at hld))
           | intro (_ : _ < _)
           | intro (_ : _ ≠ _)
           | intro (_ : _ ∨ _)))
    all_goals (try ((with_reducible show G 33 _ _ _); refine hG.2 33 _ [(0, vr 2), (1, vi a1), (2, vi a2), (3, vi a3), (4, vi a4)] _ _ rfl ?_; exact c33 (by omega)))
    all_goals first
      | with_reducible rfl
      | ((with_reducible show _ = _); rfl)
      | ((with_reducible show recvG _ _); rfl)
      | with_reducible exact trivial
      | with_reducible assumption
      | ((fail_if_success (first | (with_reducible show _ ≤ _) | (with_reducible show _ = _) | (with_reducible show _ ∨ _) | (with_reducible show _ < _) | (with_reducible show G _ _ _ _))); (refine Exists.intro _ (And.intro rfl ?_); (refine ⟨?_, trivial⟩; (first | done | focus (first | (dsimp only; done) | ((try dsimp only); ((first | (exfalso; omega) | (unfold foundF; rw [if_pos ⟨by omega, by omega, by omega, by omega⟩]; have q := mulC q0.1 q0.2 (show 0 ≤ a2 by omega) (show a2 ≤ 5 by omega); simp (disch := omega) only [w32_id]) | (unfold foundF; rw [if_neg (by omega), if_pos (by omega)]) | (unfold foundF; rw [if_neg (by omega), if_neg (by omega), if_pos (by omega)]) | (unfold foundF; rw [if_neg (by omega), if_neg (by omega), if_neg (by omega)]; (repeat' split) <;> first | (exfalso; omega) | skip; all_goals ((first | have q := mulC q0.1 q0.2 (show 0 ≤ Z 2 1 - 1 by omega) (show Z 2 1 - 1 ≤ 5 by omega) | skip); (first | have q2 := mulC q0.1 q0.2 (show 0 ≤ a2 by omega) (show a2 ≤ 5 by omega) | skip); simp (disch := omega) only [w32_id]; first | done | omega)) | fail))))))))
      | omega
      | (dsimp only; omega)
      | decide
      | (show (0 : Int) < _; omega)
      | (show (0 : Int) < _; simp only [w64] at *; omega)
      | (simp only [w32, w64] at *; omega)
      | (first | omega | ((try dsimp only); (first | omega | (simp (disch := omega) only [w32_id, w64_id]; omega) | (simp only [w32, w64]; omega) | (with_reducible refine (and32_le ?_ ?_).1 <;> omega) | (with_reducible refine (and32_le ?_ ?_).2 <;> omega) | (with_reducible refine (mulR ?_ ?_ ?_ ?_).1 <;> omega) | (with_reducible refine (mulR ?_ ?_ ?_ ?_).2 <;> omega) | (simp only [w32, w64] at *; omega) | (simp (disch := omega) only [w32_id, w64_id] at *; omega) | (simp (disch := omega) only [tdiv_nn, tmod_nn, w32_id, w64_id] at *; omega) | (subst_vars; simp [upZ] at *; omega) | (subst_vars; simp [upZ] at *; simp only [w32, w64] at *; omega))) | fail)
      | ((with_reducible show swT _ _ _ _); exact trivial)
      | rfl
      | skip
  · have c33 : ¬(0 ≤ a1 ∧ a1 < Z 4 0 ∧ 0 ≤ a2 ∧ a2 < Z 4 1) → G 33 [(0, vr 4), (1, vi a1), (2, vi a2), (3, vi a3), (4, vi a4)] [] (n, Z, R0) := fun hn => by
      refine wq_run hG n R0 [] 900 _ _ _ _ ?_
      repeat' (first
          | with_reducible rfl
          | refine And.intro ?_ ?_
          | with_reducible exact True.intro
          | ((with_reducible show _ = true); rfl)
          | ((with_reducible show recvG _ _); rfl)
          | ((with_reducible show CI _); first | with_reducible assumption | assumption)
          | (fail_if_success (first | (with_reducible show _ ≤ _) | (with_reducible show _ = _) | (with_reducible show _ ∨ _) | (with_reducible show _ < _) | (with_reducible show G _ _ _ _))
             first
             | show G _ _ _ _
             | (refine ld_bnd (by assumption) rfl ?_; intro (x : Int) _ _ hx; (try dsimp only at hx); subst hx)
             | (intro (x : Int) hx; (try dsimp only at hx); subst hx)
             | (refine ld_bnd (by first | with_reducible assumption | assumption) rfl ?_; intro _ _ _ hld; (try dsimp only at hld); (try simp only [Nat.reduceAdd] at hld))
             | (refine st_k (by first | with_reducible assumption | assumption) (by first | with_reducible assumption | assumption) (by first | exact Or.inl (by decide) | exact Or.inr (by decide)) (fun lo hi hb => by first | (cases hb; done) | (cases hb; constructor <;> (first | omega | ((try dsimp only); (first | omega | (simp (disch := omega) only [w32_id, w64_id]; omega) | (simp only [w32, w64]; omega) | (with_reducible refine (and32_le ?_ ?_).1 <;> omega) | (with_reducible refine (and32_le ?_ ?_).2 <;> omega) | (with_reducible refine (mulR ?_ ?_ ?_ ?_).1 <;> omega) | (with_reducible refine (mulR ?_ ?_ ?_ ?_).2 <;> omega) | (simp only [w32, w64] at *; omega) | (simp (disch := omega) only [w32_id, w64_id] at *; omega) | (simp (disch := omega) only [tdiv_nn, tmod_nn, w32_id, w64_id] at *; omega) | (subst_vars; simp [upZ] at *; omega) | (subst_vars; simp [upZ] at *; simp only [w32, w64] at *; omega))) | fail))) ?_; intro Z' _ hkk; intro hld; (try dsimp only at hld); (try simp only [Nat.reduceAdd] at hld); intro hup; (try dsimp only at hup))
             | (refine st_k (by first | with_reducible assumption | assumption) (by first | with_reducible assumption | assumption) (by first | exact Or.inl (by decide) | exact Or.inr (by decide)) (fun lo hi hb => ?_) ?_; (cases hb; refine And.intro ?_ ?_))
             | refine st_same ?_
             | (intro (r : Option PV) σ' hq
                first
                | (obtain ⟨rfl, x, rfl, hp⟩ := hq; (try replace hp : _ ∧ _ := hp); (try dsimp only at hp))
                | (obtain ⟨Z', (o : Nat), rfl, rfl, hI2, hk2, ⟨⟨hp, rfl⟩ | ⟨hp, rfl⟩, -⟩⟩ := hq <;> ((first | have hk3 := kp_to (by first | with_reducible assumption | assumption) (by rfl) hk2 | have hk3 := ks_to (by first | with_reducible assumption | assumption) (by rfl) hk2); clear hk2))
                | (obtain ⟨Z', x, rfl, rfl, hI2, hk2, hp⟩ := hq; (try replace hp : _ ∧ _ := hp); (try dsimp only at hp); (first | have hk3 := kp_to (by first | with_reducible assumption | assumption) (by rfl) hk2 | have hk3 := ks_to (by first | with_reducible assumption | assumption) (by rfl) hk2); clear hk2)
                | (obtain ⟨Z', rfl, rfl, hI2, hk2, hp⟩ := hq; (try replace hp : _ ∧ _ := hp); (try dsimp only at hp); (first | have hk3 := kp_to (by first | with_reducible assumption | assumption) (by rfl) hk2 | have hk3 := ks_to (by first | with_reducible assumption | assumption) (by rfl) hk2); clear hk2)
                | (obtain ⟨rfl, rfl⟩ := hq)
                | (obtain ⟨Z', x, rfl, rfl, hI2, hk2⟩ := hq; have hkn := keeps_nil hk2; clear hk2; subst hkn)
                | (obtain ⟨Z', x, rfl, rfl, hI2, hk2⟩ := hq; (first | have hk3 := kp_to (by first | with_reducible assumption | assumption) (by rfl) hk2 | have hk3 := ks_to (by first | with_reducible assumption | assumption) (by rfl) hk2); clear hk2)
                | (rcases hq with ⟨Z', rfl, rfl, hI2, hk2⟩ | ⟨Z', rfl, rfl, hI2, hk2⟩ <;> ((first | have hk3 := kp_to (by first | with_reducible assumption | assumption) (by rfl) hk2 | have hk3 := ks_to (by first | with_reducible assumption | assumption) (by rfl) hk2); clear hk2))
                | (obtain ⟨Z', rfl, rfl, hI2, hk2⟩ := hq; (first | have hk3 := kp_to (by first | with_reducible assumption | assumption) (by rfl) hk2 | have hk3 := ks_to (by first | with_reducible assumption | assumption) (by rfl) hk2); clear hk2))
             | (intro hc; (try simp only [cmp3_c] at hc); simp only [cmpI] at hc)
             | (show CI _; assumption)
             | intro (_ : Int)
             | intro (Z' : ZT)
             | intro (_ : CI _)
             | (intro (hkk : kp _ _ _))
             | intro (_ : _ ≤ _)
             | (intro (hup : _ = upZ _ _ _ _); (try dsimp only at hup))
             | (intro (hld : _ = _); (try dsimp only at hld); (try simp only [Nat.reduceAdd] at hld))
             | intro (_ : _ < _)
             | intro (_ : _ ≠ _)
             | intro (_ : _ ∨ _)))
      all_goals first
        | with_reducible rfl
        | ((with_reducible show _ = _); rfl)
        | ((with_reducible show recvG _ _); rfl)
        | with_reducible exact trivial
        | with_reducible assumption
        | ((fail_if_success (first | (with_reducible show _ ≤ _) | (with_reducible show _ = _) | (with_reducible show _ ∨ _) | (with_reducible show _ < _) | (with_reducible show G _ _ _ _))); (refine Exists.intro _ (And.intro rfl ?_); (refine ⟨?_, trivial⟩; (first | done | focus (first | (dsimp only; done) | ((try dsimp only); ((first | (exfalso; omega) | (unfold foundF; rw [if_pos ⟨by omega, by omega, by omega, by omega⟩]; have q := mulC q0.1 q0.2 (show 0 ≤ a2 by omega) (show a2 ≤ 5 by omega); simp (disch := omega) only [w32_id]) | (unfold foundF; rw [if_neg (by omega), if_pos (by omega)]) | (unfold foundF; rw [if_neg (by omega), if_neg (by omega), if_pos (by omega)]) | (unfold foundF; rw [if_neg (by omega), if_neg (by omega), if_neg (by omega)]; (repeat' split) <;> first | (exfalso; omega) | skip; all_goals ((first | have q := mulC q0.1 q0.2 (show 0 ≤ Z 4 1 - 1 by omega) (show Z 4 1 - 1 ≤ 5 by omega) | skip); (first | have q2 := mulC q0.1 q0.2 (show 0 ≤ a2 by omega) (show a2 ≤ 5 by omega) | skip); simp (disch := omega) only [w32_id]; first | done | omega)) | fail))))))))
        | omega
        | (dsimp only; omega)
        | decide
        | (show (0 : Int) < _; omega)
        | (show (0 : Int) < _; simp only [w64] at *; omega)
        | (simp only [w32, w64] at *; omega)
        | (first | omega | ((try dsimp only); (first | omega | (simp (disch := omega) only [w32_id, w64_id]; omega) | (simp only [w32, w64]; omega) | (with_reducible refine (and32_le ?_ ?_).1 <;> omega) | (with_reducible refine (and32_le ?_ ?_).2 <;> omega) | (with_reducible refine (mulR ?_ ?_ ?_ ?_).1 <;> omega) | (with_reducible refine (mulR ?_ ?_ ?_ ?_).2 <;> omega) | (simp only [w32, w64] at *; omega) | (simp (disch := omega) only [w32_id, w64_id] at *; omega) | (simp (disch := omega) only [tdiv_nn, tmod_nn, w32_id, w64_id] at *; omega) | (subst_vars; simp [upZ] at *; omega) | (subst_vars; simp [upZ] at *; simp only [w32, w64] at *; omega))) | fail)
        | ((with_reducible show swT _ _ _ _); exact trivial)
        | rfl
        | skip
    refine wq_run hG n R0 [33] 900 _ _ _ _ ?_
    repeat' (first
        | with_reducible rfl
        | refine And.intro ?_ ?_
        | with_reducible exact True.intro
        | ((with_reducible show _ = true); rfl)
        | ((with_reducible show recvG _ _); rfl)
        | ((with_reducible show CI _); first | with_reducible assumption | assumption)
        | (fail_if_success (first | (with_reducible show _ ≤ _) | (with_reducible show _ = _) | (with_reducible show _ ∨ _) | (with_reducible show _ < _) | (with_reducible show G _ _ _ _))
           first
           | show G _ _ _ _
           | (refine ld_bnd (by assumption) rfl ?_; intro (x : Int) _ _ hx; (try dsimp only at hx); subst hx)
           | (intro (x : Int) hx; (try dsimp only at hx); subst hx)
           | (refine ld_bnd (by first | with_reducible assumption | assumption) rfl ?_; intro _ _ _ hld; (try dsimp only at hld); (try simp only [Nat.reduceAdd] at hld))
           | (refine st_k (by first | with_reducible assumption | assumption) (by first | with_reducible assumption | assumption) (by first | exact Or.inl (by decide) | exact Or.inr (by decide)) (fun lo hi hb => by first | (cases hb; done) | (cases hb; constructor <;> (first | omega | ((try dsimp only); (first | omega | (simp (disch := omega) only [w32_id, w64_id]; omega) | (simp only [w32, w64]; omega) | (with_reducible refine (and32_le ?_ ?_).1 <;> omega) | (with_reducible refine (and32_le ?_ ?_).2 <;> omega) | (with_reducible refine (mulR ?_ ?_ ?_ ?_).1 <;> omega) | (with_reducible refine (mulR ?_ ?_ ?_ ?_).2 <;> omega) | (simp only [w32, w64] at *; omega) | (simp (disch := omega) only [w32_id, w64_id] at *; omega) | (simp (disch := omega) only [tdiv_nn, tmod_nn, w32_id, w64_id] at *; omega) | (subst_vars; simp [upZ] at *; omega) | (subst_vars; simp [upZ] at *; simp only [w32, w64] at *; omega))) | fail))) ?_; intro Z' _ hkk; intro hld; (try dsimp only at hld); (try simp only [Nat.reduceAdd] at hld); intro hup; (try dsimp only at hup))
           | (refine st_k (by first | with_reducible assumption | assumption) (by first | with_reducible assumption | assumption) (by first | exact Or.inl (by decide) | exact Or.inr (by decide)) (fun lo hi hb => ?_) ?_; (cases hb; refine And.intro ?_ ?_))
           | refine st_same ?_
           | (intro (r : Option PV) σ' hq
              first
              | (obtain ⟨rfl, x, rfl, hp⟩ := hq; (try replace hp : _ ∧ _ := hp); (try dsimp only at hp))
              | (obtain ⟨Z', (o : Nat), rfl, rfl, hI2, hk2, ⟨⟨hp, rfl⟩ | ⟨hp, rfl⟩, -⟩⟩ := hq <;> ((first | have hk3 := kp_to (by first | with_reducible assumption | assumption) (by rfl) hk2 | have hk3 := ks_to (by first | with_reducible assumption | assumption) (by rfl) hk2); clear hk2))
              | (obtain ⟨Z', x, rfl, rfl, hI2, hk2, hp⟩ := hq; (try replace hp : _ ∧ _ := hp); (try dsimp only at hp); (first | have hk3 := kp_to (by first | with_reducible assumption | assumption) (by rfl) hk2 | have hk3 := ks_to (by first | with_reducible assumption | assumption) (by rfl) hk2); clear hk2)
              | (obtain ⟨Z', rfl, rfl, hI2, hk2, hp⟩ := hq; (try replace hp : _ ∧ _ := hp); (try dsimp only at hp); (first | have hk3 := kp_to (by first | with_reducible assumption | assumption) (by rfl) hk2 | have hk3 := ks_to (by first | with_reducible assumption | assumption) (by rfl) hk2); clear hk2)
              | (obtain ⟨rfl, rfl⟩ := hq)
              | (obtain ⟨Z', x, rfl, rfl, hI2, hk2⟩ := hq; have hkn := keeps_nil hk2; clear hk2; subst hkn)
              | (obtain ⟨Z', x, rfl, rfl, hI2, hk2⟩ := hq; (first | have hk3 := kp_to (by first | with_reducible assumption | assumption) (by rfl) hk2 | have hk3 := ks_to (by first | with_reducible assumption | assumption) (by rfl) hk2); clear hk2)
              | (rcases hq with ⟨Z', rfl, rfl, hI2, hk2⟩ | ⟨Z', rfl, rfl, hI2, hk2⟩ <;> ((first | have hk3 := kp_to (by first | with_reducible assumption | assumption) (by rfl) hk2 | have hk3 := ks_to (by first | with_reducible assumption | assumption) (by rfl) hk2); clear hk2))
              | (obtain ⟨Z', rfl, rfl, hI2, hk2⟩ := hq; (first | have hk3 := kp_to (by first | with_reducible assumption | assumption) (by rfl) hk2 | have hk3 := ks_to (by first | with_reducible assumption | assumption) (by rfl) hk2); clear hk2))
           | (intro hc; (try simp only [cmp3_c] at hc); simp only [cmpI] at hc)
           | (show CI _; assumption)
           | intro (_ : Int)
           | intro (Z' : ZT)
           | intro (_ : CI _)
           | (intro (hkk : kp _ _ _))
           | intro (_ : _ ≤ _)
           | (intro (hup : _ = upZ _ _ _ _); (try dsimp only at hup))
           | (intro (hld : _ = _); (try dsimp only at hld); (try simp only [Nat.reduceAdd] at hld))
           | intro (_ : _ < _)
           | intro (_ : _ ≠ _)
           | intro (_ : _ ∨ _)))
    all_goals (try ((with_reducible show G 33 _ _ _); refine hG.2 33 _ [(0, vr 4), (1, vi a1), (2, vi a2), (3, vi a3), (4, vi a4)] _ _ rfl ?_; exact c33 (by omega)))
    all_goals first
      | with_reducible rfl
      | ((with_reducible show _ = _); rfl)
      | ((with_reducible show recvG _ _); rfl)
      | with_reducible exact trivial
      | with_reducible assumption
      | ((fail_if_success (first | (with_reducible show _ ≤ _) | (with_reducible show _ = _) | (with_reducible show _ ∨ _) | (with_reducible show _ < _) | (with_reducible show G _ _ _ _))); (refine Exists.intro _ (And.intro rfl ?_); (refine ⟨?_, trivial⟩; (first | done | focus (first | (dsimp only; done) | ((try dsimp only); ((first | (exfalso; omega) | (unfold foundF; rw [if_pos ⟨by omega, by omega, by omega, by omega⟩]; have q := mulC q0.1 q0.2 (show 0 ≤ a2 by omega) (show a2 ≤ 5 by omega); simp (disch := omega) only [w32_id]) | (unfold foundF; rw [if_neg (by omega), if_pos (by omega)]) | (unfold foundF; rw [if_neg (by omega), if_neg (by omega), if_pos (by omega)]) | (unfold foundF; rw [if_neg (by omega), if_neg (by omega), if_neg (by omega)]; (repeat' split) <;> first | (exfalso; omega) | skip; all_goals ((first | have q := mulC q0.1 q0.2 (show 0 ≤ Z 4 1 - 1 by omega) (show Z 4 1 - 1 ≤ 5 by omega) | skip); (first | have q2 := mulC q0.1 q0.2 (show 0 ≤ a2 by omega) (show a2 ≤ 5 by omega) | skip); simp (disch := omega) only [w32_id]; first | done | omega)) | fail))))))))
      | omega
      | (dsimp only; omega)
      | decide
      | (show (0 : Int) < _; omega)
      | (show (0 : Int) < _; simp only [w64] at *; omega)
      | (simp only [w32, w64] at *; omega)
      | (first | omega | ((try dsimp only); (first | omega | (simp (disch := omega) only [w32_id, w64_id]; omega) | (simp only [w32, w64]; omega) | (with_reducible refine (and32_le ?_ ?_).1 <;> omega) | (with_reducible refine (and32_le ?_ ?_).2 <;> omega) | (with_reducible refine (mulR ?_ ?_ ?_ ?_).1 <;> omega) | (with_reducible refine (mulR ?_ ?_ ?_ ?_).2 <;> omega) | (simp only [w32, w64] at *; omega) | (simp (disch := omega) only [w32_id, w64_id] at *; omega) | (simp (disch := omega) only [tdiv_nn, tmod_nn, w32_id, w64_id] at *; omega) | (subst_vars; simp [upZ] at *; omega) | (subst_vars; simp [upZ] at *; simp only [w32, w64] at *; omega))) | fail)
      | ((with_reducible show swT _ _ _ _); exact trivial)
      | rfl
      | skip
