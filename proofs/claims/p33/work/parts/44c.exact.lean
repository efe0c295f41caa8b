/-! ===== exact contracts: how many are kept ===== -/
def s_X10_skyL : Sp := rRI 3 10 (fun as Z => match as with
    | [.inr (.inr a0), .inl a1, .inl a2] => ((a0 = 1)) ∧ (True) ∧ (True) ∧ True
    | _ => False) (fun as => match as with
    | [.inr (.inr a0), .inl a1, .inl a2] => [1, 2, 3, 18, 29, 70, 72, 74, 76, 78, 81, 82, 88, 89, 91, 93]
    | _ => []) (fun as Z (x : Int) Z' => match as with
    | [.inr (.inr a0), .inl a1, .inl a2] => (x = -1 ∧ ¬(2 ≤ a1 ∧ a1 ≤ 6 ∧ 2 ≤ a2 ∧ a2 ≤ 6) ∧ Z' 1 5 = Z 1 5 ∨ x = a1 * a2 ∧ (2 ≤ a1 ∧ a1 ≤ 6 ∧ 2 ≤ a2 ∧ a2 ≤ 6) ∧ Z' 1 5 = 0) ∧ True
    | _ => False)
set_option maxRecDepth 100000 in
set_option maxHeartbeats 40000000 in
theorem c_X10_skyL {l : Launch} {D : va_G} {cA : Nat → ClassId} : PM l D cA yX10_sky cX10_sky 3 (some .int) 3 60 s_X10_skyL := by
  refine of_X10_sky (c_X3_shape) ⟨rfl, rfl⟩ (c_X7_clearFirsts) ⟨rfl, rfl⟩ (c_X1_clearTold) ⟨rfl, rfl⟩ (c_X9_giveAllToFirst) ⟨rfl, rfl⟩ (c_X10_forgetNumbers) ⟨rfl, rfl⟩ (c_X10_forgetTimes) ⟨rfl, rfl⟩ (fun as σ hwf hao hpre => ?_)
  obtain ⟨n, Z, R⟩ := σ
  obtain ⟨hR, hI, hpre⟩ := hpre
  obtain rfl : R = R0 := hR
  rcases as with _ | ⟨x | x | a0, _ | ⟨a1 | x | x, _ | ⟨a2 | x | x, _ | ⟨v, t⟩⟩⟩⟩ <;> first | exact (hpre : False).elim | skip
  obtain ⟨k1l, k1u⟩ : okI a1 := hao (vi a1) (by simp)
  obtain ⟨k2l, k2u⟩ : okI a2 := hao (vi a2) (by simp)
  obtain ⟨h0, h1, h2, -⟩ := hpre
  have hk : kp ([1, 2, 3, 18, 29, 70, 72, 74, 76, 78, 81, 82, 88, 89, 91, 93]) Z Z := kp_refl
  refine ⟨Nat.le_of_ble_eq_true rfl, fun G hG => ?_⟩
  clear hao hwf
  obtain rfl := h0
  refine wq_run hG n R0 [] 900 _ _ _ _ ?_
  repeat' (first
      | refine And.intro ?_ ?_
      | with_reducible rfl
      | refine ld_bnd (by assumption) rfl ?_
      | refine st_k (by assumption) (by assumption) (by first | exact Or.inl (by decide) | exact Or.inr (by decide)) (fun lo hi hb => by first | (cases hb; done) | (cases hb; constructor <;> (first | omega | ((try dsimp only); (first | omega | (simp (disch := omega) only [w32_id, w64_id]; omega) | (simp only [w32, w64]; omega) | (with_reducible refine (and32_le ?_ ?_).1 <;> omega) | (with_reducible refine (and32_le ?_ ?_).2 <;> omega) | (with_reducible refine (mulR ?_ ?_ ?_ ?_).1 <;> omega) | (with_reducible refine (mulR ?_ ?_ ?_ ?_).2 <;> omega) | (simp only [w32, w64] at *; omega) | (simp (disch := omega) only [w32_id, w64_id] at *; omega) | (simp (disch := omega) only [tdiv_nn, tmod_nn, w32_id, w64_id] at *; omega) | (subst_vars; simp [upZ] at *; omega) | (subst_vars; simp [upZ] at *; simp only [w32, w64] at *; omega))) | fail))) ?_
      | (refine st_k (by assumption) (by assumption) (by first | exact Or.inl (by decide) | exact Or.inr (by decide)) (fun lo hi hb => ?_) ?_; (cases hb; refine And.intro ?_ ?_))
      | refine st_same ?_
      | (intro (r : Option PV) σ' hq
         first
         | (obtain ⟨rfl, rfl⟩ := hq)
         | (obtain ⟨rfl, x, rfl, hp⟩ := hq; (try replace hp : _ ∧ _ := hp); (try dsimp only at hp))
         | (obtain ⟨Z', (o : Nat), rfl, rfl, hI2, hk2, ⟨⟨hp, rfl⟩ | ⟨hp, rfl⟩, -⟩⟩ := hq <;> ((first | have hk3 := kp_to (by assumption) (by rfl) hk2 | have hk3 := ks_to (by assumption) (by rfl) hk2); (first | have := kpF 2 2 hk2 (by rfl) | have := ksF 2 2 hk2 (by rfl) | skip); (try dsimp only at this); (first | have := kpF 1 5 hk2 (by rfl) | have := ksF 1 5 hk2 (by rfl) | skip); (try dsimp only at this); clear hk2))
         | (obtain ⟨Z', x, rfl, rfl, hI2, hk2, hp⟩ := hq; (try replace hp : _ ∧ _ := hp); (try dsimp only at hp); (first | have hk3 := kp_to (by assumption) (by rfl) hk2 | have hk3 := ks_to (by assumption) (by rfl) hk2); (first | have := kpF 2 2 hk2 (by rfl) | have := ksF 2 2 hk2 (by rfl) | skip); (try dsimp only at this); (first | have := kpF 1 5 hk2 (by rfl) | have := ksF 1 5 hk2 (by rfl) | skip); (try dsimp only at this); clear hk2)
         | (obtain ⟨Z', x, rfl, rfl, hI2, hk2⟩ := hq; have hkn := keeps_nil hk2; clear hk2; subst hkn)
         | (obtain ⟨Z', x, rfl, rfl, hI2, hk2⟩ := hq; (first | have hk3 := kp_to (by assumption) (by rfl) hk2 | have hk3 := ks_to (by assumption) (by rfl) hk2); (first | have := kpF 2 2 hk2 (by rfl) | have := ksF 2 2 hk2 (by rfl) | skip); (try dsimp only at this); (first | have := kpF 1 5 hk2 (by rfl) | have := ksF 1 5 hk2 (by rfl) | skip); (try dsimp only at this); clear hk2)
         | (rcases hq with ⟨Z', rfl, rfl, hI2, hk2⟩ | ⟨Z', rfl, rfl, hI2, hk2⟩ <;> ((first | have hk3 := kp_to (by assumption) (by rfl) hk2 | have hk3 := ks_to (by assumption) (by rfl) hk2); (first | have := kpF 2 2 hk2 (by rfl) | have := ksF 2 2 hk2 (by rfl) | skip); (try dsimp only at this); (first | have := kpF 1 5 hk2 (by rfl) | have := ksF 1 5 hk2 (by rfl) | skip); (try dsimp only at this); clear hk2))
         | (obtain ⟨Z', rfl, rfl, hI2, hk2, hp⟩ := hq; (try replace hp : _ ∧ _ := hp); (try dsimp only at hp); (first | have hk3 := kp_to (by assumption) (by rfl) hk2 | have hk3 := ks_to (by assumption) (by rfl) hk2); (first | have := kpF 2 2 hk2 (by rfl) | have := ksF 2 2 hk2 (by rfl) | skip); (try dsimp only at this); (first | have := kpF 1 5 hk2 (by rfl) | have := ksF 1 5 hk2 (by rfl) | skip); (try dsimp only at this); clear hk2)
         | (obtain ⟨Z', rfl, rfl, hI2, hk2⟩ := hq; (first | have hk3 := kp_to (by assumption) (by rfl) hk2 | have hk3 := ks_to (by assumption) (by rfl) hk2); (first | have := kpF 2 2 hk2 (by rfl) | have := ksF 2 2 hk2 (by rfl) | skip); (try dsimp only at this); (first | have := kpF 1 5 hk2 (by rfl) | have := ksF 1 5 hk2 (by rfl) | skip); (try dsimp only at this); clear hk2))
      | (intro hc; (try simp only [cmp3_c] at hc); simp only [cmpI] at hc)
      | (show CI _; assumption)
      | intro (_ : Int)
      | intro (Z' : ZT)
      | intro (_ : CI _)
      | (intro (hkk : kp _ _ _))
      | intro (_ : _ ≤ _)
      | (intro (hup : _ = upZ _ _ _ _); (try dsimp only at hup); (first | have := (congrFun (congrFun hup 2) 2).trans (up_ne (by decide)) | have := (congrFun (congrFun hup 2) 2).trans (up_nk (by decide)) | skip); (first | have := (congrFun (congrFun hup 1) 5).trans (up_ne (by decide)) | have := (congrFun (congrFun hup 1) 5).trans (up_nk (by decide)) | skip))
      | (intro (hld : _ = _); (try dsimp only at hld))
      | intro (_ : _ < _)
      | intro (_ : _ ≠ _)
      | intro (_ : _ ∨ _))
  all_goals first
    | with_reducible rfl
    | ((with_reducible show _ = _); rfl)
    | ((with_reducible show recvG _ _); rfl)
    | with_reducible exact trivial
    | with_reducible assumption
    | omega
    | (dsimp only; omega)
    | decide
    | (show (0 : Int) < _; omega)
    | (show (0 : Int) < _; simp only [w64] at *; omega)
    | (simp only [w32, w64] at *; omega)
    | (refine Exists.intro _ (Exists.intro _ (And.intro rfl (And.intro rfl ?_))); refine ⟨by assumption, by assumption, ?_⟩; (refine ⟨?_, trivial⟩; (first | done | focus (first | (dsimp only; done) | ((try dsimp only); (first | omega | with_reducible assumption | with_reducible rfl | (first | omega | ((try dsimp only); (first | omega | (simp (disch := omega) only [w32_id, w64_id]; omega) | (simp only [w32, w64]; omega) | (with_reducible refine (and32_le ?_ ?_).1 <;> omega) | (with_reducible refine (and32_le ?_ ?_).2 <;> omega) | (with_reducible refine (mulR ?_ ?_ ?_ ?_).1 <;> omega) | (with_reducible refine (mulR ?_ ?_ ?_ ?_).2 <;> omega) | (simp only [w32, w64] at *; omega) | (simp (disch := omega) only [w32_id, w64_id] at *; omega) | (simp (disch := omega) only [tdiv_nn, tmod_nn, w32_id, w64_id] at *; omega) | (subst_vars; simp [upZ] at *; omega) | (subst_vars; simp [upZ] at *; simp only [w32, w64] at *; omega))) | fail) | fail))))))
    | (first | omega | ((try dsimp only); (first | omega | (simp (disch := omega) only [w32_id, w64_id]; omega) | (simp only [w32, w64]; omega) | (with_reducible refine (and32_le ?_ ?_).1 <;> omega) | (with_reducible refine (and32_le ?_ ?_).2 <;> omega) | (with_reducible refine (mulR ?_ ?_ ?_ ?_).1 <;> omega) | (with_reducible refine (mulR ?_ ?_ ?_ ?_).2 <;> omega) | (simp only [w32, w64] at *; omega) | (simp (disch := omega) only [w32_id, w64_id] at *; omega) | (simp (disch := omega) only [tdiv_nn, tmod_nn, w32_id, w64_id] at *; omega) | (subst_vars; simp [upZ] at *; omega) | (subst_vars; simp [upZ] at *; simp only [w32, w64] at *; omega))) | fail)
    | ((with_reducible show swT _ _ _ _); exact trivial)
    | rfl
    | skip
def s_X11_skyL : Sp := rRI 3 11 (fun as Z => match as with
    | [.inr (.inr a0), .inl a1, .inl a2] => ((a0 = 100)) ∧ (True) ∧ (True) ∧ True
    | _ => False) (fun as => match as with
    | [.inr (.inr a0), .inl a1, .inl a2] => [112, 117, 120, 1100, 2100, 20100, 31100]
    | _ => []) (fun as Z (x : Int) Z' => match as with
    | [.inr (.inr a0), .inl a1, .inl a2] => (x = -1 ∧ ¬(2 ≤ a1 ∧ a1 ≤ 6 ∧ 2 ≤ a2 ∧ a2 ≤ 6) ∧ Z' 100 30 = Z 100 30 ∨ x = a1 * a2 ∧ (2 ≤ a1 ∧ a1 ≤ 6 ∧ 2 ≤ a2 ∧ a2 ≤ 6) ∧ Z' 100 30 = 0) ∧ True
    | _ => False)
set_option maxRecDepth 100000 in
set_option maxHeartbeats 40000000 in
theorem c_X11_skyL {l : Launch} {D : va_G} {cA : Nat → ClassId} : PM l D cA yX11_sky cX11_sky 3 (some .int) 2 42 s_X11_skyL := by
  refine of_X11_sky (c_X11_in) ⟨rfl, rfl⟩ (c_X11_begins) ⟨rfl, rfl⟩ (c_X11_cells) ⟨rfl, rfl⟩ (fun as σ hwf hao hpre => ?_)
  obtain ⟨n, Z, R⟩ := σ
  obtain ⟨hR, hI, hpre⟩ := hpre
  obtain rfl : R = R0 := hR
  rcases as with _ | ⟨x | x | a0, _ | ⟨a1 | x | x, _ | ⟨a2 | x | x, _ | ⟨v, t⟩⟩⟩⟩ <;> first | exact (hpre : False).elim | skip
  obtain ⟨k1l, k1u⟩ : okI a1 := hao (vi a1) (by simp)
  obtain ⟨k2l, k2u⟩ : okI a2 := hao (vi a2) (by simp)
  obtain ⟨h0, h1, h2, -⟩ := hpre
  have hk : kp ([112, 117, 120, 1100, 2100, 20100, 31100]) Z Z := kp_refl
  refine ⟨Nat.le_of_ble_eq_true rfl, fun G hG => ?_⟩
  clear hao hwf
  obtain rfl := h0
  refine wq_run hG n R0 [] 900 _ _ _ _ ?_
  repeat' (first
      | refine And.intro ?_ ?_
      | with_reducible rfl
      | refine ld_bnd (by assumption) rfl ?_
      | refine st_k (by assumption) (by assumption) (by first | exact Or.inl (by decide) | exact Or.inr (by decide)) (fun lo hi hb => by first | (cases hb; done) | (cases hb; constructor <;> (first | omega | ((try dsimp only); (first | omega | (refine Or.inr ⟨?_, by omega, by omega⟩; rename_i hp; rw [hp.1]; congr 1 <;> omega) | (simp (disch := omega) only [w32_id, w64_id]; omega) | (simp only [w32, w64]; omega) | (with_reducible refine (and32_le ?_ ?_).1 <;> omega) | (with_reducible refine (and32_le ?_ ?_).2 <;> omega) | (with_reducible refine (mulR ?_ ?_ ?_ ?_).1 <;> omega) | (with_reducible refine (mulR ?_ ?_ ?_ ?_).2 <;> omega) | (simp only [w32, w64] at *; omega) | (simp (disch := omega) only [w32_id, w64_id] at *; omega) | (simp (disch := omega) only [tdiv_nn, tmod_nn, w32_id, w64_id] at *; omega) | (subst_vars; simp [upZ] at *; omega) | (subst_vars; simp [upZ] at *; simp only [w32, w64] at *; omega))) | fail))) ?_
      | (refine st_k (by assumption) (by assumption) (by first | exact Or.inl (by decide) | exact Or.inr (by decide)) (fun lo hi hb => ?_) ?_; (cases hb; refine And.intro ?_ ?_))
      | refine st_same ?_
      | (intro (r : Option PV) σ' hq
         first
         | (obtain ⟨rfl, rfl⟩ := hq)
         | (obtain ⟨rfl, x, rfl, hp⟩ := hq; (try replace hp : _ ∧ _ := hp); (try dsimp only at hp))
         | (obtain ⟨Z', (o : Nat), rfl, rfl, hI2, hk2, ⟨⟨hp, rfl⟩ | ⟨hp, rfl⟩, -⟩⟩ := hq <;> ((first | have hk3 := kp_to (by assumption) (by rfl) hk2 | have hk3 := ks_to (by assumption) (by rfl) hk2); (first | have := kpF 100 0 hk2 (by rfl) | have := ksF 100 0 hk2 (by rfl) | skip); (try dsimp only at this); (first | have := kpF 100 1 hk2 (by rfl) | have := ksF 100 1 hk2 (by rfl) | skip); (try dsimp only at this); (first | have := kpF 100 30 hk2 (by rfl) | have := ksF 100 30 hk2 (by rfl) | skip); (try dsimp only at this); clear hk2))
         | (obtain ⟨Z', x, rfl, rfl, hI2, hk2, hp⟩ := hq; (try replace hp : _ ∧ _ := hp); (try dsimp only at hp); (first | have hk3 := kp_to (by assumption) (by rfl) hk2 | have hk3 := ks_to (by assumption) (by rfl) hk2); (first | have := kpF 100 0 hk2 (by rfl) | have := ksF 100 0 hk2 (by rfl) | skip); (try dsimp only at this); (first | have := kpF 100 1 hk2 (by rfl) | have := ksF 100 1 hk2 (by rfl) | skip); (try dsimp only at this); (first | have := kpF 100 30 hk2 (by rfl) | have := ksF 100 30 hk2 (by rfl) | skip); (try dsimp only at this); clear hk2)
         | (obtain ⟨Z', x, rfl, rfl, hI2, hk2⟩ := hq; have hkn := keeps_nil hk2; clear hk2; subst hkn)
         | (obtain ⟨Z', x, rfl, rfl, hI2, hk2⟩ := hq; (first | have hk3 := kp_to (by assumption) (by rfl) hk2 | have hk3 := ks_to (by assumption) (by rfl) hk2); (first | have := kpF 100 0 hk2 (by rfl) | have := ksF 100 0 hk2 (by rfl) | skip); (try dsimp only at this); (first | have := kpF 100 1 hk2 (by rfl) | have := ksF 100 1 hk2 (by rfl) | skip); (try dsimp only at this); (first | have := kpF 100 30 hk2 (by rfl) | have := ksF 100 30 hk2 (by rfl) | skip); (try dsimp only at this); clear hk2)
         | (rcases hq with ⟨Z', rfl, rfl, hI2, hk2⟩ | ⟨Z', rfl, rfl, hI2, hk2⟩ <;> ((first | have hk3 := kp_to (by assumption) (by rfl) hk2 | have hk3 := ks_to (by assumption) (by rfl) hk2); (first | have := kpF 100 0 hk2 (by rfl) | have := ksF 100 0 hk2 (by rfl) | skip); (try dsimp only at this); (first | have := kpF 100 1 hk2 (by rfl) | have := ksF 100 1 hk2 (by rfl) | skip); (try dsimp only at this); (first | have := kpF 100 30 hk2 (by rfl) | have := ksF 100 30 hk2 (by rfl) | skip); (try dsimp only at this); clear hk2))
         | (obtain ⟨Z', rfl, rfl, hI2, hk2, hp⟩ := hq; (try replace hp : _ ∧ _ := hp); (try dsimp only at hp); (first | have hk3 := kp_to (by assumption) (by rfl) hk2 | have hk3 := ks_to (by assumption) (by rfl) hk2); (first | have := kpF 100 0 hk2 (by rfl) | have := ksF 100 0 hk2 (by rfl) | skip); (try dsimp only at this); (first | have := kpF 100 1 hk2 (by rfl) | have := ksF 100 1 hk2 (by rfl) | skip); (try dsimp only at this); (first | have := kpF 100 30 hk2 (by rfl) | have := ksF 100 30 hk2 (by rfl) | skip); (try dsimp only at this); clear hk2)
         | (obtain ⟨Z', rfl, rfl, hI2, hk2⟩ := hq; (first | have hk3 := kp_to (by assumption) (by rfl) hk2 | have hk3 := ks_to (by assumption) (by rfl) hk2); (first | have := kpF 100 0 hk2 (by rfl) | have := ksF 100 0 hk2 (by rfl) | skip); (try dsimp only at this); (first | have := kpF 100 1 hk2 (by rfl) | have := ksF 100 1 hk2 (by rfl) | skip); (try dsimp only at this); (first | have := kpF 100 30 hk2 (by rfl) | have := ksF 100 30 hk2 (by rfl) | skip); (try dsimp only at this); clear hk2))
      | (intro hc; (try simp only [cmp3_c] at hc); simp only [cmpI] at hc)
      | (show CI _; assumption)
      | intro (_ : Int)
      | intro (Z' : ZT)
      | intro (_ : CI _)
      | (intro (hkk : kp _ _ _))
      | intro (_ : _ ≤ _)
      | (intro (hup : _ = upZ _ _ _ _); (try dsimp only at hup); (first | have := (congrFun (congrFun hup 100) 0).trans (up_ne (by decide)) | have := (congrFun (congrFun hup 100) 0).trans (up_nk (by decide)) | skip); (first | have := (congrFun (congrFun hup 100) 1).trans (up_ne (by decide)) | have := (congrFun (congrFun hup 100) 1).trans (up_nk (by decide)) | skip); (first | have := (congrFun (congrFun hup 100) 30).trans (up_ne (by decide)) | have := (congrFun (congrFun hup 100) 30).trans (up_nk (by decide)) | skip))
      | (intro (hld : _ = _); (try dsimp only at hld))
      | intro (_ : _ < _)
      | intro (_ : _ ≠ _)
      | intro (_ : _ ∨ _))
  all_goals first
    | with_reducible rfl
    | ((with_reducible show _ = _); rfl)
    | ((with_reducible show recvG _ _); rfl)
    | with_reducible exact trivial
    | with_reducible assumption
    | omega
    | (dsimp only; omega)
    | decide
    | (show (0 : Int) < _; omega)
    | (show (0 : Int) < _; simp only [w64] at *; omega)
    | (simp only [w32, w64] at *; omega)
    | (refine Exists.intro _ (Exists.intro _ (And.intro rfl (And.intro rfl ?_))); refine ⟨by assumption, by assumption, ?_⟩; (refine ⟨?_, trivial⟩; (first | done | focus (first | (dsimp only; done) | ((try dsimp only); (first | omega | with_reducible assumption | with_reducible rfl | (first | omega | ((try dsimp only); (first | omega | (refine Or.inr ⟨?_, by omega, by omega⟩; rename_i hp; rw [hp.1]; congr 1 <;> omega) | (simp (disch := omega) only [w32_id, w64_id]; omega) | (simp only [w32, w64]; omega) | (with_reducible refine (and32_le ?_ ?_).1 <;> omega) | (with_reducible refine (and32_le ?_ ?_).2 <;> omega) | (with_reducible refine (mulR ?_ ?_ ?_ ?_).1 <;> omega) | (with_reducible refine (mulR ?_ ?_ ?_ ?_).2 <;> omega) | (simp only [w32, w64] at *; omega) | (simp (disch := omega) only [w32_id, w64_id] at *; omega) | (simp (disch := omega) only [tdiv_nn, tmod_nn, w32_id, w64_id] at *; omega) | (subst_vars; simp [upZ] at *; omega) | (subst_vars; simp [upZ] at *; simp only [w32, w64] at *; omega))) | fail) | fail))))))
    | (first | omega | ((try dsimp only); (first | omega | (refine Or.inr ⟨?_, by omega, by omega⟩; rename_i hp; rw [hp.1]; congr 1 <;> omega) | (simp (disch := omega) only [w32_id, w64_id]; omega) | (simp only [w32, w64]; omega) | (with_reducible refine (and32_le ?_ ?_).1 <;> omega) | (with_reducible refine (and32_le ?_ ?_).2 <;> omega) | (with_reducible refine (mulR ?_ ?_ ?_ ?_).1 <;> omega) | (with_reducible refine (mulR ?_ ?_ ?_ ?_).2 <;> omega) | (simp only [w32, w64] at *; omega) | (simp (disch := omega) only [w32_id, w64_id] at *; omega) | (simp (disch := omega) only [tdiv_nn, tmod_nn, w32_id, w64_id] at *; omega) | (subst_vars; simp [upZ] at *; omega) | (subst_vars; simp [upZ] at *; simp only [w32, w64] at *; omega))) | fail)
    | ((with_reducible show swT _ _ _ _); exact trivial)
    | rfl
    | skip
def s_X10_keepL : Sp := rRI 1 10 (fun as Z => match as with
    | [.inr (.inr a0)] => ((a0 = 1)) ∧ True
    | _ => False) (fun as => match as with
    | [.inr (.inr a0)] => [1, 36, 37, 38, 39, 40, 41, 42, 43, 44, 45, 46, 47, 48, 49, 50, 51, 52, 53, 54, 55, 56, 57, 58, 59, 60, 61, 62, 63, 64, 65, 66, 67, 68, 69]
    | _ => []) (fun as Z (x : Int) Z' => match as with
    | [.inr (.inr a0)] => (x = -3 ∧ Z 1 5 = 2 ∧ Z' 1 5 = 2 ∨ x = Z 1 5 + 1 ∧ Z 1 5 ≤ 1 ∧ Z' 1 5 = Z 1 5 + 1) ∧ True
    | _ => False)
set_option maxRecDepth 100000 in
set_option maxHeartbeats 40000000 in
theorem c_X10_keepL {l : Launch} {D : va_G} {cA : Nat → ClassId} : PM l D cA yX10_keep cX10_keep 1 (some .int) 2 44 s_X10_keepL := by
  refine of_X10_keep (c_X7_copyFrom) ⟨rfl, rfl⟩ (fun as σ hwf hao hpre => ?_)
  obtain ⟨n, Z, R⟩ := σ
  obtain ⟨hR, hI, hpre⟩ := hpre
  obtain rfl : R = R0 := hR
  rcases as with _ | ⟨x | x | a0, _ | ⟨v, t⟩⟩ <;> first | exact (hpre : False).elim | skip
  obtain ⟨h0, -⟩ := hpre
  have hk : kp ([1, 36, 37, 38, 39, 40, 41, 42, 43, 44, 45, 46, 47, 48, 49, 50, 51, 52, 53, 54, 55, 56, 57, 58, 59, 60, 61, 62, 63, 64, 65, 66, 67, 68, 69]) Z Z := kp_refl
  refine ⟨Nat.le_of_ble_eq_true rfl, fun G hG => ?_⟩
  clear hao hwf
  obtain rfl := h0
  have hsr : 0 ≤ Z 1 5 ∧ Z 1 5 ≤ 2 := hI 1 5 0 2 rfl
  rcases (show Z 1 5 = 0 ∨ Z 1 5 = 1 ∨ Z 1 5 = 2 by omega) with hs | hs | hs
  · refine wq_run hG n R0 [] 900 _ _ _ _ ?_
    repeat' (first
        | refine And.intro ?_ ?_
        | with_reducible rfl
        | (intro (x : Int) hx; (have hx2 : x = 0 := by (first | omega | (simp only [w32] at *; omega))); clear hx; subst hx2)
        | (intro (x : Int) hx; (have hx2 : x = 1 := by (first | omega | (simp only [w32] at *; omega))); clear hx; subst hx2)
        | (intro (x : Int) hx; (have hx2 : x = 2 := by (first | omega | (simp only [w32] at *; omega))); clear hx; subst hx2)
        | exact (show R0 35 (Int.toNat 0) ≠ 0 from by decide)
        | exact (show R0 35 (Int.toNat 1) ≠ 0 from by decide)
        | refine ld_bnd (by assumption) rfl ?_
        | refine st_k (by assumption) (by assumption) (by first | exact Or.inl (by decide) | exact Or.inr (by decide)) (fun lo hi hb => by first | (cases hb; done) | (cases hb; constructor <;> (first | omega | ((try dsimp only); (first | omega | (simp (disch := omega) only [w32_id, w64_id]; omega) | (simp only [w32, w64]; omega) | (with_reducible refine (and32_le ?_ ?_).1 <;> omega) | (with_reducible refine (and32_le ?_ ?_).2 <;> omega) | (with_reducible refine (mulR ?_ ?_ ?_ ?_).1 <;> omega) | (with_reducible refine (mulR ?_ ?_ ?_ ?_).2 <;> omega) | (simp only [w32, w64] at *; omega) | (simp (disch := omega) only [w32_id, w64_id] at *; omega) | (simp (disch := omega) only [tdiv_nn, tmod_nn, w32_id, w64_id] at *; omega) | (subst_vars; simp [upZ] at *; omega) | (subst_vars; simp [upZ] at *; simp only [w32, w64] at *; omega))) | fail))) ?_
        | (refine st_k (by assumption) (by assumption) (by first | exact Or.inl (by decide) | exact Or.inr (by decide)) (fun lo hi hb => ?_) ?_; (cases hb; refine And.intro ?_ ?_))
        | refine st_same ?_
        | (intro (r : Option PV) σ' hq
           first
           | (obtain ⟨rfl, rfl⟩ := hq)
           | (obtain ⟨rfl, x, rfl, hp⟩ := hq; (try replace hp : _ ∧ _ := hp); (try dsimp only at hp))
           | (obtain ⟨Z', (o : Nat), rfl, rfl, hI2, hk2, ⟨⟨hp, rfl⟩ | ⟨hp, rfl⟩, -⟩⟩ := hq <;> ((first | have hk3 := kp_to (by assumption) (by rfl) hk2 | have hk3 := ks_to (by assumption) (by rfl) hk2); (first | have := kpF 1 5 hk2 (by rfl) | have := ksF 1 5 hk2 (by rfl) | skip); (try dsimp only at this); clear hk2))
           | (obtain ⟨Z', x, rfl, rfl, hI2, hk2, hp⟩ := hq; (try replace hp : _ ∧ _ := hp); (try dsimp only at hp); (first | have hk3 := kp_to (by assumption) (by rfl) hk2 | have hk3 := ks_to (by assumption) (by rfl) hk2); (first | have := kpF 1 5 hk2 (by rfl) | have := ksF 1 5 hk2 (by rfl) | skip); (try dsimp only at this); clear hk2)
           | (obtain ⟨Z', x, rfl, rfl, hI2, hk2⟩ := hq; have hkn := keeps_nil hk2; clear hk2; subst hkn)
           | (obtain ⟨Z', x, rfl, rfl, hI2, hk2⟩ := hq; (first | have hk3 := kp_to (by assumption) (by rfl) hk2 | have hk3 := ks_to (by assumption) (by rfl) hk2); (first | have := kpF 1 5 hk2 (by rfl) | have := ksF 1 5 hk2 (by rfl) | skip); (try dsimp only at this); clear hk2)
           | (rcases hq with ⟨Z', rfl, rfl, hI2, hk2⟩ | ⟨Z', rfl, rfl, hI2, hk2⟩ <;> ((first | have hk3 := kp_to (by assumption) (by rfl) hk2 | have hk3 := ks_to (by assumption) (by rfl) hk2); (first | have := kpF 1 5 hk2 (by rfl) | have := ksF 1 5 hk2 (by rfl) | skip); (try dsimp only at this); clear hk2))
           | (obtain ⟨Z', rfl, rfl, hI2, hk2, hp⟩ := hq; (try replace hp : _ ∧ _ := hp); (try dsimp only at hp); (first | have hk3 := kp_to (by assumption) (by rfl) hk2 | have hk3 := ks_to (by assumption) (by rfl) hk2); (first | have := kpF 1 5 hk2 (by rfl) | have := ksF 1 5 hk2 (by rfl) | skip); (try dsimp only at this); clear hk2)
           | (obtain ⟨Z', rfl, rfl, hI2, hk2⟩ := hq; (first | have hk3 := kp_to (by assumption) (by rfl) hk2 | have hk3 := ks_to (by assumption) (by rfl) hk2); (first | have := kpF 1 5 hk2 (by rfl) | have := ksF 1 5 hk2 (by rfl) | skip); (try dsimp only at this); clear hk2))
        | (intro hc; (try simp only [cmp3_c] at hc); simp only [cmpI] at hc)
        | (show CI _; assumption)
        | intro (_ : Int)
        | intro (Z' : ZT)
        | intro (_ : CI _)
        | (intro (hkk : kp _ _ _))
        | intro (_ : _ ≤ _)
        | (intro (hup : _ = upZ _ _ _ _); (try dsimp only at hup); (first | have := (congrFun (congrFun hup 1) 5).trans (up_ne (by decide)) | have := (congrFun (congrFun hup 1) 5).trans (up_nk (by decide)) | skip))
        | (intro (hld : _ = _); (try dsimp only at hld))
        | intro (_ : _ < _)
        | intro (_ : _ ≠ _)
        | intro (_ : _ ∨ _))
    all_goals first
      | with_reducible rfl
      | ((with_reducible show _ = _); rfl)
      | ((with_reducible show recvG _ _); rfl)
      | with_reducible exact trivial
      | with_reducible assumption
      | exact Or.inl ⟨rfl, rfl⟩
      | exact Or.inr (Or.inl ⟨rfl, rfl⟩)
      | exact Or.inr (Or.inr (Or.inl ⟨rfl, rfl⟩))
      | exact Or.inr (Or.inr (Or.inr ⟨rfl, rfl⟩))
      | omega
      | (dsimp only; omega)
      | decide
      | (show (0 : Int) < _; omega)
      | (show (0 : Int) < _; simp only [w64] at *; omega)
      | (simp only [w32, w64] at *; omega)
      | (refine Exists.intro _ (Exists.intro _ (And.intro rfl (And.intro rfl ?_))); refine ⟨by assumption, by assumption, ?_⟩; (refine ⟨?_, trivial⟩; (first | done | focus (first | (dsimp only; done) | ((try dsimp only); (first | omega | with_reducible assumption | with_reducible rfl | (first | omega | ((try dsimp only); (first | omega | (simp (disch := omega) only [w32_id, w64_id]; omega) | (simp only [w32, w64]; omega) | (with_reducible refine (and32_le ?_ ?_).1 <;> omega) | (with_reducible refine (and32_le ?_ ?_).2 <;> omega) | (with_reducible refine (mulR ?_ ?_ ?_ ?_).1 <;> omega) | (with_reducible refine (mulR ?_ ?_ ?_ ?_).2 <;> omega) | (simp only [w32, w64] at *; omega) | (simp (disch := omega) only [w32_id, w64_id] at *; omega) | (simp (disch := omega) only [tdiv_nn, tmod_nn, w32_id, w64_id] at *; omega) | (subst_vars; simp [upZ] at *; omega) | (subst_vars; simp [upZ] at *; simp only [w32, w64] at *; omega))) | fail) | fail))))))
      | (first | omega | ((try dsimp only); (first | omega | (simp (disch := omega) only [w32_id, w64_id]; omega) | (simp only [w32, w64]; omega) | (with_reducible refine (and32_le ?_ ?_).1 <;> omega) | (with_reducible refine (and32_le ?_ ?_).2 <;> omega) | (with_reducible refine (mulR ?_ ?_ ?_ ?_).1 <;> omega) | (with_reducible refine (mulR ?_ ?_ ?_ ?_).2 <;> omega) | (simp only [w32, w64] at *; omega) | (simp (disch := omega) only [w32_id, w64_id] at *; omega) | (simp (disch := omega) only [tdiv_nn, tmod_nn, w32_id, w64_id] at *; omega) | (subst_vars; simp [upZ] at *; omega) | (subst_vars; simp [upZ] at *; simp only [w32, w64] at *; omega))) | fail)
      | ((with_reducible show swT _ _ _ _); exact trivial)
      | rfl
      | skip
  · refine wq_run hG n R0 [] 900 _ _ _ _ ?_
    repeat' (first
        | refine And.intro ?_ ?_
        | with_reducible rfl
        | (intro (x : Int) hx; (have hx2 : x = 0 := by (first | omega | (simp only [w32] at *; omega))); clear hx; subst hx2)
        | (intro (x : Int) hx; (have hx2 : x = 1 := by (first | omega | (simp only [w32] at *; omega))); clear hx; subst hx2)
        | (intro (x : Int) hx; (have hx2 : x = 2 := by (first | omega | (simp only [w32] at *; omega))); clear hx; subst hx2)
        | exact (show R0 35 (Int.toNat 0) ≠ 0 from by decide)
        | exact (show R0 35 (Int.toNat 1) ≠ 0 from by decide)
        | refine ld_bnd (by assumption) rfl ?_
        | refine st_k (by assumption) (by assumption) (by first | exact Or.inl (by decide) | exact Or.inr (by decide)) (fun lo hi hb => by first | (cases hb; done) | (cases hb; constructor <;> (first | omega | ((try dsimp only); (first | omega | (simp (disch := omega) only [w32_id, w64_id]; omega) | (simp only [w32, w64]; omega) | (with_reducible refine (and32_le ?_ ?_).1 <;> omega) | (with_reducible refine (and32_le ?_ ?_).2 <;> omega) | (with_reducible refine (mulR ?_ ?_ ?_ ?_).1 <;> omega) | (with_reducible refine (mulR ?_ ?_ ?_ ?_).2 <;> omega) | (simp only [w32, w64] at *; omega) | (simp (disch := omega) only [w32_id, w64_id] at *; omega) | (simp (disch := omega) only [tdiv_nn, tmod_nn, w32_id, w64_id] at *; omega) | (subst_vars; simp [upZ] at *; omega) | (subst_vars; simp [upZ] at *; simp only [w32, w64] at *; omega))) | fail))) ?_
        | (refine st_k (by assumption) (by assumption) (by first | exact Or.inl (by decide) | exact Or.inr (by decide)) (fun lo hi hb => ?_) ?_; (cases hb; refine And.intro ?_ ?_))
        | refine st_same ?_
        | (intro (r : Option PV) σ' hq
           first
           | (obtain ⟨rfl, rfl⟩ := hq)
           | (obtain ⟨rfl, x, rfl, hp⟩ := hq; (try replace hp : _ ∧ _ := hp); (try dsimp only at hp))
           | (obtain ⟨Z', (o : Nat), rfl, rfl, hI2, hk2, ⟨⟨hp, rfl⟩ | ⟨hp, rfl⟩, -⟩⟩ := hq <;> ((first | have hk3 := kp_to (by assumption) (by rfl) hk2 | have hk3 := ks_to (by assumption) (by rfl) hk2); (first | have := kpF 1 5 hk2 (by rfl) | have := ksF 1 5 hk2 (by rfl) | skip); (try dsimp only at this); clear hk2))
           | (obtain ⟨Z', x, rfl, rfl, hI2, hk2, hp⟩ := hq; (try replace hp : _ ∧ _ := hp); (try dsimp only at hp); (first | have hk3 := kp_to (by assumption) (by rfl) hk2 | have hk3 := ks_to (by assumption) (by rfl) hk2); (first | have := kpF 1 5 hk2 (by rfl) | have := ksF 1 5 hk2 (by rfl) | skip); (try dsimp only at this); clear hk2)
           | (obtain ⟨Z', x, rfl, rfl, hI2, hk2⟩ := hq; have hkn := keeps_nil hk2; clear hk2; subst hkn)
           | (obtain ⟨Z', x, rfl, rfl, hI2, hk2⟩ := hq; (first | have hk3 := kp_to (by assumption) (by rfl) hk2 | have hk3 := ks_to (by assumption) (by rfl) hk2); (first | have := kpF 1 5 hk2 (by rfl) | have := ksF 1 5 hk2 (by rfl) | skip); (try dsimp only at this); clear hk2)
           | (rcases hq with ⟨Z', rfl, rfl, hI2, hk2⟩ | ⟨Z', rfl, rfl, hI2, hk2⟩ <;> ((first | have hk3 := kp_to (by assumption) (by rfl) hk2 | have hk3 := ks_to (by assumption) (by rfl) hk2); (first | have := kpF 1 5 hk2 (by rfl) | have := ksF 1 5 hk2 (by rfl) | skip); (try dsimp only at this); clear hk2))
           | (obtain ⟨Z', rfl, rfl, hI2, hk2, hp⟩ := hq; (try replace hp : _ ∧ _ := hp); (try dsimp only at hp); (first | have hk3 := kp_to (by assumption) (by rfl) hk2 | have hk3 := ks_to (by assumption) (by rfl) hk2); (first | have := kpF 1 5 hk2 (by rfl) | have := ksF 1 5 hk2 (by rfl) | skip); (try dsimp only at this); clear hk2)
           | (obtain ⟨Z', rfl, rfl, hI2, hk2⟩ := hq; (first | have hk3 := kp_to (by assumption) (by rfl) hk2 | have hk3 := ks_to (by assumption) (by rfl) hk2); (first | have := kpF 1 5 hk2 (by rfl) | have := ksF 1 5 hk2 (by rfl) | skip); (try dsimp only at this); clear hk2))
        | (intro hc; (try simp only [cmp3_c] at hc); simp only [cmpI] at hc)
        | (show CI _; assumption)
        | intro (_ : Int)
        | intro (Z' : ZT)
        | intro (_ : CI _)
        | (intro (hkk : kp _ _ _))
        | intro (_ : _ ≤ _)
        | (intro (hup : _ = upZ _ _ _ _); (try dsimp only at hup); (first | have := (congrFun (congrFun hup 1) 5).trans (up_ne (by decide)) | have := (congrFun (congrFun hup 1) 5).trans (up_nk (by decide)) | skip))
        | (intro (hld : _ = _); (try dsimp only at hld))
        | intro (_ : _ < _)
        | intro (_ : _ ≠ _)
        | intro (_ : _ ∨ _))
    all_goals first
      | with_reducible rfl
      | ((with_reducible show _ = _); rfl)
      | ((with_reducible show recvG _ _); rfl)
      | with_reducible exact trivial
      | with_reducible assumption
      | exact Or.inl ⟨rfl, rfl⟩
      | exact Or.inr (Or.inl ⟨rfl, rfl⟩)
      | exact Or.inr (Or.inr (Or.inl ⟨rfl, rfl⟩))
      | exact Or.inr (Or.inr (Or.inr ⟨rfl, rfl⟩))
      | omega
      | (dsimp only; omega)
      | decide
      | (show (0 : Int) < _; omega)
      | (show (0 : Int) < _; simp only [w64] at *; omega)
      | (simp only [w32, w64] at *; omega)
      | (refine Exists.intro _ (Exists.intro _ (And.intro rfl (And.intro rfl ?_))); refine ⟨by assumption, by assumption, ?_⟩; (refine ⟨?_, trivial⟩; (first | done | focus (first | (dsimp only; done) | ((try dsimp only); (first | omega | with_reducible assumption | with_reducible rfl | (first | omega | ((try dsimp only); (first | omega | (simp (disch := omega) only [w32_id, w64_id]; omega) | (simp only [w32, w64]; omega) | (with_reducible refine (and32_le ?_ ?_).1 <;> omega) | (with_reducible refine (and32_le ?_ ?_).2 <;> omega) | (with_reducible refine (mulR ?_ ?_ ?_ ?_).1 <;> omega) | (with_reducible refine (mulR ?_ ?_ ?_ ?_).2 <;> omega) | (simp only [w32, w64] at *; omega) | (simp (disch := omega) only [w32_id, w64_id] at *; omega) | (simp (disch := omega) only [tdiv_nn, tmod_nn, w32_id, w64_id] at *; omega) | (subst_vars; simp [upZ] at *; omega) | (subst_vars; simp [upZ] at *; simp only [w32, w64] at *; omega))) | fail) | fail))))))
      | (first | omega | ((try dsimp only); (first | omega | (simp (disch := omega) only [w32_id, w64_id]; omega) | (simp only [w32, w64]; omega) | (with_reducible refine (and32_le ?_ ?_).1 <;> omega) | (with_reducible refine (and32_le ?_ ?_).2 <;> omega) | (with_reducible refine (mulR ?_ ?_ ?_ ?_).1 <;> omega) | (with_reducible refine (mulR ?_ ?_ ?_ ?_).2 <;> omega) | (simp only [w32, w64] at *; omega) | (simp (disch := omega) only [w32_id, w64_id] at *; omega) | (simp (disch := omega) only [tdiv_nn, tmod_nn, w32_id, w64_id] at *; omega) | (subst_vars; simp [upZ] at *; omega) | (subst_vars; simp [upZ] at *; simp only [w32, w64] at *; omega))) | fail)
      | ((with_reducible show swT _ _ _ _); exact trivial)
      | rfl
      | skip
  · refine wq_run hG n R0 [] 900 _ _ _ _ ?_
    repeat' (first
        | refine And.intro ?_ ?_
        | with_reducible rfl
        | (intro (x : Int) hx; (have hx2 : x = 0 := by (first | omega | (simp only [w32] at *; omega))); clear hx; subst hx2)
        | (intro (x : Int) hx; (have hx2 : x = 1 := by (first | omega | (simp only [w32] at *; omega))); clear hx; subst hx2)
        | (intro (x : Int) hx; (have hx2 : x = 2 := by (first | omega | (simp only [w32] at *; omega))); clear hx; subst hx2)
        | exact (show R0 35 (Int.toNat 0) ≠ 0 from by decide)
        | exact (show R0 35 (Int.toNat 1) ≠ 0 from by decide)
        | refine ld_bnd (by assumption) rfl ?_
        | refine st_k (by assumption) (by assumption) (by first | exact Or.inl (by decide) | exact Or.inr (by decide)) (fun lo hi hb => by first | (cases hb; done) | (cases hb; constructor <;> (first | omega | ((try dsimp only); (first | omega | (simp (disch := omega) only [w32_id, w64_id]; omega) | (simp only [w32, w64]; omega) | (with_reducible refine (and32_le ?_ ?_).1 <;> omega) | (with_reducible refine (and32_le ?_ ?_).2 <;> omega) | (with_reducible refine (mulR ?_ ?_ ?_ ?_).1 <;> omega) | (with_reducible refine (mulR ?_ ?_ ?_ ?_).2 <;> omega) | (simp only [w32, w64] at *; omega) | (simp (disch := omega) only [w32_id, w64_id] at *; omega) | (simp (disch := omega) only [tdiv_nn, tmod_nn, w32_id, w64_id] at *; omega) | (subst_vars; simp [upZ] at *; omega) | (subst_vars; simp [upZ] at *; simp only [w32, w64] at *; omega))) | fail))) ?_
        | (refine st_k (by assumption) (by assumption) (by first | exact Or.inl (by decide) | exact Or.inr (by decide)) (fun lo hi hb => ?_) ?_; (cases hb; refine And.intro ?_ ?_))
        | refine st_same ?_
        | (intro (r : Option PV) σ' hq
           first
           | (obtain ⟨rfl, rfl⟩ := hq)
           | (obtain ⟨rfl, x, rfl, hp⟩ := hq; (try replace hp : _ ∧ _ := hp); (try dsimp only at hp))
           | (obtain ⟨Z', (o : Nat), rfl, rfl, hI2, hk2, ⟨⟨hp, rfl⟩ | ⟨hp, rfl⟩, -⟩⟩ := hq <;> ((first | have hk3 := kp_to (by assumption) (by rfl) hk2 | have hk3 := ks_to (by assumption) (by rfl) hk2); (first | have := kpF 1 5 hk2 (by rfl) | have := ksF 1 5 hk2 (by rfl) | skip); (try dsimp only at this); clear hk2))
           | (obtain ⟨Z', x, rfl, rfl, hI2, hk2, hp⟩ := hq; (try replace hp : _ ∧ _ := hp); (try dsimp only at hp); (first | have hk3 := kp_to (by assumption) (by rfl) hk2 | have hk3 := ks_to (by assumption) (by rfl) hk2); (first | have := kpF 1 5 hk2 (by rfl) | have := ksF 1 5 hk2 (by rfl) | skip); (try dsimp only at this); clear hk2)
           | (obtain ⟨Z', x, rfl, rfl, hI2, hk2⟩ := hq; have hkn := keeps_nil hk2; clear hk2; subst hkn)
           | (obtain ⟨Z', x, rfl, rfl, hI2, hk2⟩ := hq; (first | have hk3 := kp_to (by assumption) (by rfl) hk2 | have hk3 := ks_to (by assumption) (by rfl) hk2); (first | have := kpF 1 5 hk2 (by rfl) | have := ksF 1 5 hk2 (by rfl) | skip); (try dsimp only at this); clear hk2)
           | (rcases hq with ⟨Z', rfl, rfl, hI2, hk2⟩ | ⟨Z', rfl, rfl, hI2, hk2⟩ <;> ((first | have hk3 := kp_to (by assumption) (by rfl) hk2 | have hk3 := ks_to (by assumption) (by rfl) hk2); (first | have := kpF 1 5 hk2 (by rfl) | have := ksF 1 5 hk2 (by rfl) | skip); (try dsimp only at this); clear hk2))
           | (obtain ⟨Z', rfl, rfl, hI2, hk2, hp⟩ := hq; (try replace hp : _ ∧ _ := hp); (try dsimp only at hp); (first | have hk3 := kp_to (by assumption) (by rfl) hk2 | have hk3 := ks_to (by assumption) (by rfl) hk2); (first | have := kpF 1 5 hk2 (by rfl) | have := ksF 1 5 hk2 (by rfl) | skip); (try dsimp only at this); clear hk2)
           | (obtain ⟨Z', rfl, rfl, hI2, hk2⟩ := hq; (first | have hk3 := kp_to (by assumption) (by rfl) hk2 | have hk3 := ks_to (by assumption) (by rfl) hk2); (first | have := kpF 1 5 hk2 (by rfl) | have := ksF 1 5 hk2 (by rfl) | skip); (try dsimp only at this); clear hk2))
        | (intro hc; (try simp only [cmp3_c] at hc); simp only [cmpI] at hc)
        | (show CI _; assumption)
        | intro (_ : Int)
        | intro (Z' : ZT)
        | intro (_ : CI _)
        | (intro (hkk : kp _ _ _))
        | intro (_ : _ ≤ _)
        | (intro (hup : _ = upZ _ _ _ _); (try dsimp only at hup); (first | have := (congrFun (congrFun hup 1) 5).trans (up_ne (by decide)) | have := (congrFun (congrFun hup 1) 5).trans (up_nk (by decide)) | skip))
        | (intro (hld : _ = _); (try dsimp only at hld))
        | intro (_ : _ < _)
        | intro (_ : _ ≠ _)
        | intro (_ : _ ∨ _))
    all_goals first
      | with_reducible rfl
      | ((with_reducible show _ = _); rfl)
      | ((with_reducible show recvG _ _); rfl)
      | with_reducible exact trivial
      | with_reducible assumption
      | exact Or.inl ⟨rfl, rfl⟩
      | exact Or.inr (Or.inl ⟨rfl, rfl⟩)
      | exact Or.inr (Or.inr (Or.inl ⟨rfl, rfl⟩))
      | exact Or.inr (Or.inr (Or.inr ⟨rfl, rfl⟩))
      | omega
      | (dsimp only; omega)
      | decide
      | (show (0 : Int) < _; omega)
      | (show (0 : Int) < _; simp only [w64] at *; omega)
      | (simp only [w32, w64] at *; omega)
      | (refine Exists.intro _ (Exists.intro _ (And.intro rfl (And.intro rfl ?_))); refine ⟨by assumption, by assumption, ?_⟩; (refine ⟨?_, trivial⟩; (first | done | focus (first | (dsimp only; done) | ((try dsimp only); (first | omega | with_reducible assumption | with_reducible rfl | (first | omega | ((try dsimp only); (first | omega | (simp (disch := omega) only [w32_id, w64_id]; omega) | (simp only [w32, w64]; omega) | (with_reducible refine (and32_le ?_ ?_).1 <;> omega) | (with_reducible refine (and32_le ?_ ?_).2 <;> omega) | (with_reducible refine (mulR ?_ ?_ ?_ ?_).1 <;> omega) | (with_reducible refine (mulR ?_ ?_ ?_ ?_).2 <;> omega) | (simp only [w32, w64] at *; omega) | (simp (disch := omega) only [w32_id, w64_id] at *; omega) | (simp (disch := omega) only [tdiv_nn, tmod_nn, w32_id, w64_id] at *; omega) | (subst_vars; simp [upZ] at *; omega) | (subst_vars; simp [upZ] at *; simp only [w32, w64] at *; omega))) | fail) | fail))))))
      | (first | omega | ((try dsimp only); (first | omega | (simp (disch := omega) only [w32_id, w64_id]; omega) | (simp only [w32, w64]; omega) | (with_reducible refine (and32_le ?_ ?_).1 <;> omega) | (with_reducible refine (and32_le ?_ ?_).2 <;> omega) | (with_reducible refine (mulR ?_ ?_ ?_ ?_).1 <;> omega) | (with_reducible refine (mulR ?_ ?_ ?_ ?_).2 <;> omega) | (simp only [w32, w64] at *; omega) | (simp (disch := omega) only [w32_id, w64_id] at *; omega) | (simp (disch := omega) only [tdiv_nn, tmod_nn, w32_id, w64_id] at *; omega) | (subst_vars; simp [upZ] at *; omega) | (subst_vars; simp [upZ] at *; simp only [w32, w64] at *; omega))) | fail)
      | ((with_reducible show swT _ _ _ _); exact trivial)
      | rfl
      | skip
def s_X10_backL : Sp := rRI 1 10 (fun as Z => match as with
    | [.inr (.inr a0)] => ((a0 = 1)) ∧ True
    | _ => False) (fun as => match as with
    | [.inr (.inr a0)] => [1, 2, 3, 18, 19, 20, 21, 22, 23, 24, 25, 26, 27, 28, 29, 30, 31, 32, 33, 34, 70, 72, 74, 76, 78, 88, 91, 93]
    | _ => []) (fun as Z (x : Int) Z' => match as with
    | [.inr (.inr a0)] => (x = -2 ∧ Z 1 5 = 0 ∧ Z' 1 5 = 0 ∨ x = Z 1 5 - 1 ∧ 1 ≤ Z 1 5 ∧ Z' 1 5 = Z 1 5 - 1) ∧ True
    | _ => False)
set_option maxRecDepth 100000 in
set_option maxHeartbeats 40000000 in
theorem c_X10_backL {l : Launch} {D : va_G} {cA : Nat → ClassId} : PM l D cA yX10_back cX10_back 1 (some .int) 4 80 s_X10_backL := by
  refine of_X10_back (c_X7_copyFrom) ⟨rfl, rfl⟩ (c_X10_reshape) ⟨rfl, rfl⟩ (fun as σ hwf hao hpre => ?_)
  obtain ⟨n, Z, R⟩ := σ
  obtain ⟨hR, hI, hpre⟩ := hpre
  obtain rfl : R = R0 := hR
  rcases as with _ | ⟨x | x | a0, _ | ⟨v, t⟩⟩ <;> first | exact (hpre : False).elim | skip
  obtain ⟨h0, -⟩ := hpre
  have hk : kp ([1, 2, 3, 18, 19, 20, 21, 22, 23, 24, 25, 26, 27, 28, 29, 30, 31, 32, 33, 34, 70, 72, 74, 76, 78, 88, 91, 93]) Z Z := kp_refl
  refine ⟨Nat.le_of_ble_eq_true rfl, fun G hG => ?_⟩
  clear hao hwf
  obtain rfl := h0
  have hsr : 0 ≤ Z 1 5 ∧ Z 1 5 ≤ 2 := hI 1 5 0 2 rfl
  rcases (show Z 1 5 = 0 ∨ Z 1 5 = 1 ∨ Z 1 5 = 2 by omega) with hs | hs | hs
  · refine wq_run hG n R0 [] 900 _ _ _ _ ?_
    repeat' (first
        | refine And.intro ?_ ?_
        | with_reducible rfl
        | (intro (x : Int) hx; (have hx2 : x = 0 := by (first | omega | (simp only [w32] at *; omega))); clear hx; subst hx2)
        | (intro (x : Int) hx; (have hx2 : x = 1 := by (first | omega | (simp only [w32] at *; omega))); clear hx; subst hx2)
        | (intro (x : Int) hx; (have hx2 : x = 2 := by (first | omega | (simp only [w32] at *; omega))); clear hx; subst hx2)
        | exact (show R0 35 (Int.toNat 0) ≠ 0 from by decide)
        | exact (show R0 35 (Int.toNat 1) ≠ 0 from by decide)
        | refine ld_bnd (by assumption) rfl ?_
        | refine st_k (by assumption) (by assumption) (by first | exact Or.inl (by decide) | exact Or.inr (by decide)) (fun lo hi hb => by first | (cases hb; done) | (cases hb; constructor <;> (first | omega | ((try dsimp only); (first | omega | (simp (disch := omega) only [w32_id, w64_id]; omega) | (simp only [w32, w64]; omega) | (with_reducible refine (and32_le ?_ ?_).1 <;> omega) | (with_reducible refine (and32_le ?_ ?_).2 <;> omega) | (with_reducible refine (mulR ?_ ?_ ?_ ?_).1 <;> omega) | (with_reducible refine (mulR ?_ ?_ ?_ ?_).2 <;> omega) | (simp only [w32, w64] at *; omega) | (simp (disch := omega) only [w32_id, w64_id] at *; omega) | (simp (disch := omega) only [tdiv_nn, tmod_nn, w32_id, w64_id] at *; omega) | (subst_vars; simp [upZ] at *; omega) | (subst_vars; simp [upZ] at *; simp only [w32, w64] at *; omega))) | fail))) ?_
        | (refine st_k (by assumption) (by assumption) (by first | exact Or.inl (by decide) | exact Or.inr (by decide)) (fun lo hi hb => ?_) ?_; (cases hb; refine And.intro ?_ ?_))
        | refine st_same ?_
        | (intro (r : Option PV) σ' hq
           first
           | (obtain ⟨rfl, rfl⟩ := hq)
           | (obtain ⟨rfl, x, rfl, hp⟩ := hq; (try replace hp : _ ∧ _ := hp); (try dsimp only at hp))
           | (obtain ⟨Z', (o : Nat), rfl, rfl, hI2, hk2, ⟨⟨hp, rfl⟩ | ⟨hp, rfl⟩, -⟩⟩ := hq <;> ((first | have hk3 := kp_to (by assumption) (by rfl) hk2 | have hk3 := ks_to (by assumption) (by rfl) hk2); (first | have := kpF 1 5 hk2 (by rfl) | have := ksF 1 5 hk2 (by rfl) | skip); (try dsimp only at this); clear hk2))
           | (obtain ⟨Z', x, rfl, rfl, hI2, hk2, hp⟩ := hq; (try replace hp : _ ∧ _ := hp); (try dsimp only at hp); (first | have hk3 := kp_to (by assumption) (by rfl) hk2 | have hk3 := ks_to (by assumption) (by rfl) hk2); (first | have := kpF 1 5 hk2 (by rfl) | have := ksF 1 5 hk2 (by rfl) | skip); (try dsimp only at this); clear hk2)
           | (obtain ⟨Z', x, rfl, rfl, hI2, hk2⟩ := hq; have hkn := keeps_nil hk2; clear hk2; subst hkn)
           | (obtain ⟨Z', x, rfl, rfl, hI2, hk2⟩ := hq; (first | have hk3 := kp_to (by assumption) (by rfl) hk2 | have hk3 := ks_to (by assumption) (by rfl) hk2); (first | have := kpF 1 5 hk2 (by rfl) | have := ksF 1 5 hk2 (by rfl) | skip); (try dsimp only at this); clear hk2)
           | (rcases hq with ⟨Z', rfl, rfl, hI2, hk2⟩ | ⟨Z', rfl, rfl, hI2, hk2⟩ <;> ((first | have hk3 := kp_to (by assumption) (by rfl) hk2 | have hk3 := ks_to (by assumption) (by rfl) hk2); (first | have := kpF 1 5 hk2 (by rfl) | have := ksF 1 5 hk2 (by rfl) | skip); (try dsimp only at this); clear hk2))
           | (obtain ⟨Z', rfl, rfl, hI2, hk2, hp⟩ := hq; (try replace hp : _ ∧ _ := hp); (try dsimp only at hp); (first | have hk3 := kp_to (by assumption) (by rfl) hk2 | have hk3 := ks_to (by assumption) (by rfl) hk2); (first | have := kpF 1 5 hk2 (by rfl) | have := ksF 1 5 hk2 (by rfl) | skip); (try dsimp only at this); clear hk2)
           | (obtain ⟨Z', rfl, rfl, hI2, hk2⟩ := hq; (first | have hk3 := kp_to (by assumption) (by rfl) hk2 | have hk3 := ks_to (by assumption) (by rfl) hk2); (first | have := kpF 1 5 hk2 (by rfl) | have := ksF 1 5 hk2 (by rfl) | skip); (try dsimp only at this); clear hk2))
        | (intro hc; (try simp only [cmp3_c] at hc); simp only [cmpI] at hc)
        | (show CI _; assumption)
        | intro (_ : Int)
        | intro (Z' : ZT)
        | intro (_ : CI _)
        | (intro (hkk : kp _ _ _))
        | intro (_ : _ ≤ _)
        | (intro (hup : _ = upZ _ _ _ _); (try dsimp only at hup); (first | have := (congrFun (congrFun hup 1) 5).trans (up_ne (by decide)) | have := (congrFun (congrFun hup 1) 5).trans (up_nk (by decide)) | skip))
        | (intro (hld : _ = _); (try dsimp only at hld))
        | intro (_ : _ < _)
        | intro (_ : _ ≠ _)
        | intro (_ : _ ∨ _))
    all_goals first
      | with_reducible rfl
      | ((with_reducible show _ = _); rfl)
      | ((with_reducible show recvG _ _); rfl)
      | with_reducible exact trivial
      | with_reducible assumption
      | exact Or.inl ⟨rfl, rfl⟩
      | exact Or.inr (Or.inl ⟨rfl, rfl⟩)
      | exact Or.inr (Or.inr (Or.inl ⟨rfl, rfl⟩))
      | exact Or.inr (Or.inr (Or.inr ⟨rfl, rfl⟩))
      | omega
      | (dsimp only; omega)
      | decide
      | (show (0 : Int) < _; omega)
      | (show (0 : Int) < _; simp only [w64] at *; omega)
      | (simp only [w32, w64] at *; omega)
      | (refine Exists.intro _ (Exists.intro _ (And.intro rfl (And.intro rfl ?_))); refine ⟨by assumption, by assumption, ?_⟩; (refine ⟨?_, trivial⟩; (first | done | focus (first | (dsimp only; done) | ((try dsimp only); (first | omega | with_reducible assumption | with_reducible rfl | (first | omega | ((try dsimp only); (first | omega | (simp (disch := omega) only [w32_id, w64_id]; omega) | (simp only [w32, w64]; omega) | (with_reducible refine (and32_le ?_ ?_).1 <;> omega) | (with_reducible refine (and32_le ?_ ?_).2 <;> omega) | (with_reducible refine (mulR ?_ ?_ ?_ ?_).1 <;> omega) | (with_reducible refine (mulR ?_ ?_ ?_ ?_).2 <;> omega) | (simp only [w32, w64] at *; omega) | (simp (disch := omega) only [w32_id, w64_id] at *; omega) | (simp (disch := omega) only [tdiv_nn, tmod_nn, w32_id, w64_id] at *; omega) | (subst_vars; simp [upZ] at *; omega) | (subst_vars; simp [upZ] at *; simp only [w32, w64] at *; omega))) | fail) | fail))))))
      | (first | omega | ((try dsimp only); (first | omega | (simp (disch := omega) only [w32_id, w64_id]; omega) | (simp only [w32, w64]; omega) | (with_reducible refine (and32_le ?_ ?_).1 <;> omega) | (with_reducible refine (and32_le ?_ ?_).2 <;> omega) | (with_reducible refine (mulR ?_ ?_ ?_ ?_).1 <;> omega) | (with_reducible refine (mulR ?_ ?_ ?_ ?_).2 <;> omega) | (simp only [w32, w64] at *; omega) | (simp (disch := omega) only [w32_id, w64_id] at *; omega) | (simp (disch := omega) only [tdiv_nn, tmod_nn, w32_id, w64_id] at *; omega) | (subst_vars; simp [upZ] at *; omega) | (subst_vars; simp [upZ] at *; simp only [w32, w64] at *; omega))) | fail)
      | ((with_reducible show swT _ _ _ _); exact trivial)
      | rfl
      | skip
  · refine wq_run hG n R0 [] 900 _ _ _ _ ?_
    repeat' (first
        | refine And.intro ?_ ?_
        | with_reducible rfl
        | (intro (x : Int) hx; (have hx2 : x = 0 := by (first | omega | (simp only [w32] at *; omega))); clear hx; subst hx2)
        | (intro (x : Int) hx; (have hx2 : x = 1 := by (first | omega | (simp only [w32] at *; omega))); clear hx; subst hx2)
        | (intro (x : Int) hx; (have hx2 : x = 2 := by (first | omega | (simp only [w32] at *; omega))); clear hx; subst hx2)
        | exact (show R0 35 (Int.toNat 0) ≠ 0 from by decide)
        | exact (show R0 35 (Int.toNat 1) ≠ 0 from by decide)
        | refine ld_bnd (by assumption) rfl ?_
        | refine st_k (by assumption) (by assumption) (by first | exact Or.inl (by decide) | exact Or.inr (by decide)) (fun lo hi hb => by first | (cases hb; done) | (cases hb; constructor <;> (first | omega | ((try dsimp only); (first | omega | (simp (disch := omega) only [w32_id, w64_id]; omega) | (simp only [w32, w64]; omega) | (with_reducible refine (and32_le ?_ ?_).1 <;> omega) | (with_reducible refine (and32_le ?_ ?_).2 <;> omega) | (with_reducible refine (mulR ?_ ?_ ?_ ?_).1 <;> omega) | (with_reducible refine (mulR ?_ ?_ ?_ ?_).2 <;> omega) | (simp only [w32, w64] at *; omega) | (simp (disch := omega) only [w32_id, w64_id] at *; omega) | (simp (disch := omega) only [tdiv_nn, tmod_nn, w32_id, w64_id] at *; omega) | (subst_vars; simp [upZ] at *; omega) | (subst_vars; simp [upZ] at *; simp only [w32, w64] at *; omega))) | fail))) ?_
        | (refine st_k (by assumption) (by assumption) (by first | exact Or.inl (by decide) | exact Or.inr (by decide)) (fun lo hi hb => ?_) ?_; (cases hb; refine And.intro ?_ ?_))
        | refine st_same ?_
        | (intro (r : Option PV) σ' hq
           first
           | (obtain ⟨rfl, rfl⟩ := hq)
           | (obtain ⟨rfl, x, rfl, hp⟩ := hq; (try replace hp : _ ∧ _ := hp); (try dsimp only at hp))
           | (obtain ⟨Z', (o : Nat), rfl, rfl, hI2, hk2, ⟨⟨hp, rfl⟩ | ⟨hp, rfl⟩, -⟩⟩ := hq <;> ((first | have hk3 := kp_to (by assumption) (by rfl) hk2 | have hk3 := ks_to (by assumption) (by rfl) hk2); (first | have := kpF 1 5 hk2 (by rfl) | have := ksF 1 5 hk2 (by rfl) | skip); (try dsimp only at this); clear hk2))
           | (obtain ⟨Z', x, rfl, rfl, hI2, hk2, hp⟩ := hq; (try replace hp : _ ∧ _ := hp); (try dsimp only at hp); (first | have hk3 := kp_to (by assumption) (by rfl) hk2 | have hk3 := ks_to (by assumption) (by rfl) hk2); (first | have := kpF 1 5 hk2 (by rfl) | have := ksF 1 5 hk2 (by rfl) | skip); (try dsimp only at this); clear hk2)
           | (obtain ⟨Z', x, rfl, rfl, hI2, hk2⟩ := hq; have hkn := keeps_nil hk2; clear hk2; subst hkn)
           | (obtain ⟨Z', x, rfl, rfl, hI2, hk2⟩ := hq; (first | have hk3 := kp_to (by assumption) (by rfl) hk2 | have hk3 := ks_to (by assumption) (by rfl) hk2); (first | have := kpF 1 5 hk2 (by rfl) | have := ksF 1 5 hk2 (by rfl) | skip); (try dsimp only at this); clear hk2)
           | (rcases hq with ⟨Z', rfl, rfl, hI2, hk2⟩ | ⟨Z', rfl, rfl, hI2, hk2⟩ <;> ((first | have hk3 := kp_to (by assumption) (by rfl) hk2 | have hk3 := ks_to (by assumption) (by rfl) hk2); (first | have := kpF 1 5 hk2 (by rfl) | have := ksF 1 5 hk2 (by rfl) | skip); (try dsimp only at this); clear hk2))
           | (obtain ⟨Z', rfl, rfl, hI2, hk2, hp⟩ := hq; (try replace hp : _ ∧ _ := hp); (try dsimp only at hp); (first | have hk3 := kp_to (by assumption) (by rfl) hk2 | have hk3 := ks_to (by assumption) (by rfl) hk2); (first | have := kpF 1 5 hk2 (by rfl) | have := ksF 1 5 hk2 (by rfl) | skip); (try dsimp only at this); clear hk2)
           | (obtain ⟨Z', rfl, rfl, hI2, hk2⟩ := hq; (first | have hk3 := kp_to (by assumption) (by rfl) hk2 | have hk3 := ks_to (by assumption) (by rfl) hk2); (first | have := kpF 1 5 hk2 (by rfl) | have := ksF 1 5 hk2 (by rfl) | skip); (try dsimp only at this); clear hk2))
        | (intro hc; (try simp only [cmp3_c] at hc); simp only [cmpI] at hc)
        | (show CI _; assumption)
        | intro (_ : Int)
        | intro (Z' : ZT)
        | intro (_ : CI _)
        | (intro (hkk : kp _ _ _))
        | intro (_ : _ ≤ _)
        | (intro (hup : _ = upZ _ _ _ _); (try dsimp only at hup); (first | have := (congrFun (congrFun hup 1) 5).trans (up_ne (by decide)) | have := (congrFun (congrFun hup 1) 5).trans (up_nk (by decide)) | skip))
        | (intro (hld : _ = _); (try dsimp only at hld))
        | intro (_ : _ < _)
        | intro (_ : _ ≠ _)
        | intro (_ : _ ∨ _))
    all_goals first
      | with_reducible rfl
      | ((with_reducible show _ = _); rfl)
      | ((with_reducible show recvG _ _); rfl)
      | with_reducible exact trivial
      | with_reducible assumption
      | exact Or.inl ⟨rfl, rfl⟩
      | exact Or.inr (Or.inl ⟨rfl, rfl⟩)
      | exact Or.inr (Or.inr (Or.inl ⟨rfl, rfl⟩))
      | exact Or.inr (Or.inr (Or.inr ⟨rfl, rfl⟩))
      | omega
      | (dsimp only; omega)
      | decide
      | (show (0 : Int) < _; omega)
      | (show (0 : Int) < _; simp only [w64] at *; omega)
      | (simp only [w32, w64] at *; omega)
      | (refine Exists.intro _ (Exists.intro _ (And.intro rfl (And.intro rfl ?_))); refine ⟨by assumption, by assumption, ?_⟩; (refine ⟨?_, trivial⟩; (first | done | focus (first | (dsimp only; done) | ((try dsimp only); (first | omega | with_reducible assumption | with_reducible rfl | (first | omega | ((try dsimp only); (first | omega | (simp (disch := omega) only [w32_id, w64_id]; omega) | (simp only [w32, w64]; omega) | (with_reducible refine (and32_le ?_ ?_).1 <;> omega) | (with_reducible refine (and32_le ?_ ?_).2 <;> omega) | (with_reducible refine (mulR ?_ ?_ ?_ ?_).1 <;> omega) | (with_reducible refine (mulR ?_ ?_ ?_ ?_).2 <;> omega) | (simp only [w32, w64] at *; omega) | (simp (disch := omega) only [w32_id, w64_id] at *; omega) | (simp (disch := omega) only [tdiv_nn, tmod_nn, w32_id, w64_id] at *; omega) | (subst_vars; simp [upZ] at *; omega) | (subst_vars; simp [upZ] at *; simp only [w32, w64] at *; omega))) | fail) | fail))))))
      | (first | omega | ((try dsimp only); (first | omega | (simp (disch := omega) only [w32_id, w64_id]; omega) | (simp only [w32, w64]; omega) | (with_reducible refine (and32_le ?_ ?_).1 <;> omega) | (with_reducible refine (and32_le ?_ ?_).2 <;> omega) | (with_reducible refine (mulR ?_ ?_ ?_ ?_).1 <;> omega) | (with_reducible refine (mulR ?_ ?_ ?_ ?_).2 <;> omega) | (simp only [w32, w64] at *; omega) | (simp (disch := omega) only [w32_id, w64_id] at *; omega) | (simp (disch := omega) only [tdiv_nn, tmod_nn, w32_id, w64_id] at *; omega) | (subst_vars; simp [upZ] at *; omega) | (subst_vars; simp [upZ] at *; simp only [w32, w64] at *; omega))) | fail)
      | ((with_reducible show swT _ _ _ _); exact trivial)
      | rfl
      | skip
  · refine wq_run hG n R0 [] 900 _ _ _ _ ?_
    repeat' (first
        | refine And.intro ?_ ?_
        | with_reducible rfl
        | (intro (x : Int) hx; (have hx2 : x = 0 := by (first | omega | (simp only [w32] at *; omega))); clear hx; subst hx2)
        | (intro (x : Int) hx; (have hx2 : x = 1 := by (first | omega | (simp only [w32] at *; omega))); clear hx; subst hx2)
        | (intro (x : Int) hx; (have hx2 : x = 2 := by (first | omega | (simp only [w32] at *; omega))); clear hx; subst hx2)
        | exact (show R0 35 (Int.toNat 0) ≠ 0 from by decide)
        | exact (show R0 35 (Int.toNat 1) ≠ 0 from by decide)
        | refine ld_bnd (by assumption) rfl ?_
        | refine st_k (by assumption) (by assumption) (by first | exact Or.inl (by decide) | exact Or.inr (by decide)) (fun lo hi hb => by first | (cases hb; done) | (cases hb; constructor <;> (first | omega | ((try dsimp only); (first | omega | (simp (disch := omega) only [w32_id, w64_id]; omega) | (simp only [w32, w64]; omega) | (with_reducible refine (and32_le ?_ ?_).1 <;> omega) | (with_reducible refine (and32_le ?_ ?_).2 <;> omega) | (with_reducible refine (mulR ?_ ?_ ?_ ?_).1 <;> omega) | (with_reducible refine (mulR ?_ ?_ ?_ ?_).2 <;> omega) | (simp only [w32, w64] at *; omega) | (simp (disch := omega) only [w32_id, w64_id] at *; omega) | (simp (disch := omega) only [tdiv_nn, tmod_nn, w32_id, w64_id] at *; omega) | (subst_vars; simp [upZ] at *; omega) | (subst_vars; simp [upZ] at *; simp only [w32, w64] at *; omega))) | fail))) ?_
        | (refine st_k (by assumption) (by assumption) (by first | exact Or.inl (by decide) | exact Or.inr (by decide)) (fun lo hi hb => ?_) ?_; (cases hb; refine And.intro ?_ ?_))
        | refine st_same ?_
        | (intro (r : Option PV) σ' hq
           first
           | (obtain ⟨rfl, rfl⟩ := hq)
           | (obtain ⟨rfl, x, rfl, hp⟩ := hq; (try replace hp : _ ∧ _ := hp); (try dsimp only at hp))
           | (obtain ⟨Z', (o : Nat), rfl, rfl, hI2, hk2, ⟨⟨hp, rfl⟩ | ⟨hp, rfl⟩, -⟩⟩ := hq <;> ((first | have hk3 := kp_to (by assumption) (by rfl) hk2 | have hk3 := ks_to (by assumption) (by rfl) hk2); (first | have := kpF 1 5 hk2 (by rfl) | have := ksF 1 5 hk2 (by rfl) | skip); (try dsimp only at this); clear hk2))
           | (obtain ⟨Z', x, rfl, rfl, hI2, hk2, hp⟩ := hq; (try replace hp : _ ∧ _ := hp); (try dsimp only at hp); (first | have hk3 := kp_to (by assumption) (by rfl) hk2 | have hk3 := ks_to (by assumption) (by rfl) hk2); (first | have := kpF 1 5 hk2 (by rfl) | have := ksF 1 5 hk2 (by rfl) | skip); (try dsimp only at this); clear hk2)
           | (obtain ⟨Z', x, rfl, rfl, hI2, hk2⟩ := hq; have hkn := keeps_nil hk2; clear hk2; subst hkn)
           | (obtain ⟨Z', x, rfl, rfl, hI2, hk2⟩ := hq; (first | have hk3 := kp_to (by assumption) (by rfl) hk2 | have hk3 := ks_to (by assumption) (by rfl) hk2); (first | have := kpF 1 5 hk2 (by rfl) | have := ksF 1 5 hk2 (by rfl) | skip); (try dsimp only at this); clear hk2)
           | (rcases hq with ⟨Z', rfl, rfl, hI2, hk2⟩ | ⟨Z', rfl, rfl, hI2, hk2⟩ <;> ((first | have hk3 := kp_to (by assumption) (by rfl) hk2 | have hk3 := ks_to (by assumption) (by rfl) hk2); (first | have := kpF 1 5 hk2 (by rfl) | have := ksF 1 5 hk2 (by rfl) | skip); (try dsimp only at this); clear hk2))
           | (obtain ⟨Z', rfl, rfl, hI2, hk2, hp⟩ := hq; (try replace hp : _ ∧ _ := hp); (try dsimp only at hp); (first | have hk3 := kp_to (by assumption) (by rfl) hk2 | have hk3 := ks_to (by assumption) (by rfl) hk2); (first | have := kpF 1 5 hk2 (by rfl) | have := ksF 1 5 hk2 (by rfl) | skip); (try dsimp only at this); clear hk2)
           | (obtain ⟨Z', rfl, rfl, hI2, hk2⟩ := hq; (first | have hk3 := kp_to (by assumption) (by rfl) hk2 | have hk3 := ks_to (by assumption) (by rfl) hk2); (first | have := kpF 1 5 hk2 (by rfl) | have := ksF 1 5 hk2 (by rfl) | skip); (try dsimp only at this); clear hk2))
        | (intro hc; (try simp only [cmp3_c] at hc); simp only [cmpI] at hc)
        | (show CI _; assumption)
        | intro (_ : Int)
        | intro (Z' : ZT)
        | intro (_ : CI _)
        | (intro (hkk : kp _ _ _))
        | intro (_ : _ ≤ _)
        | (intro (hup : _ = upZ _ _ _ _); (try dsimp only at hup); (first | have := (congrFun (congrFun hup 1) 5).trans (up_ne (by decide)) | have := (congrFun (congrFun hup 1) 5).trans (up_nk (by decide)) | skip))
        | (intro (hld : _ = _); (try dsimp only at hld))
        | intro (_ : _ < _)
        | intro (_ : _ ≠ _)
        | intro (_ : _ ∨ _))
    all_goals first
      | with_reducible rfl
      | ((with_reducible show _ = _); rfl)
      | ((with_reducible show recvG _ _); rfl)
      | with_reducible exact trivial
      | with_reducible assumption
      | exact Or.inl ⟨rfl, rfl⟩
      | exact Or.inr (Or.inl ⟨rfl, rfl⟩)
      | exact Or.inr (Or.inr (Or.inl ⟨rfl, rfl⟩))
      | exact Or.inr (Or.inr (Or.inr ⟨rfl, rfl⟩))
      | omega
      | (dsimp only; omega)
      | decide
      | (show (0 : Int) < _; omega)
      | (show (0 : Int) < _; simp only [w64] at *; omega)
      | (simp only [w32, w64] at *; omega)
      | (refine Exists.intro _ (Exists.intro _ (And.intro rfl (And.intro rfl ?_))); refine ⟨by assumption, by assumption, ?_⟩; (refine ⟨?_, trivial⟩; (first | done | focus (first | (dsimp only; done) | ((try dsimp only); (first | omega | with_reducible assumption | with_reducible rfl | (first | omega | ((try dsimp only); (first | omega | (simp (disch := omega) only [w32_id, w64_id]; omega) | (simp only [w32, w64]; omega) | (with_reducible refine (and32_le ?_ ?_).1 <;> omega) | (with_reducible refine (and32_le ?_ ?_).2 <;> omega) | (with_reducible refine (mulR ?_ ?_ ?_ ?_).1 <;> omega) | (with_reducible refine (mulR ?_ ?_ ?_ ?_).2 <;> omega) | (simp only [w32, w64] at *; omega) | (simp (disch := omega) only [w32_id, w64_id] at *; omega) | (simp (disch := omega) only [tdiv_nn, tmod_nn, w32_id, w64_id] at *; omega) | (subst_vars; simp [upZ] at *; omega) | (subst_vars; simp [upZ] at *; simp only [w32, w64] at *; omega))) | fail) | fail))))))
      | (first | omega | ((try dsimp only); (first | omega | (simp (disch := omega) only [w32_id, w64_id]; omega) | (simp only [w32, w64]; omega) | (with_reducible refine (and32_le ?_ ?_).1 <;> omega) | (with_reducible refine (and32_le ?_ ?_).2 <;> omega) | (with_reducible refine (mulR ?_ ?_ ?_ ?_).1 <;> omega) | (with_reducible refine (mulR ?_ ?_ ?_ ?_).2 <;> omega) | (simp only [w32, w64] at *; omega) | (simp (disch := omega) only [w32_id, w64_id] at *; omega) | (simp (disch := omega) only [tdiv_nn, tmod_nn, w32_id, w64_id] at *; omega) | (subst_vars; simp [upZ] at *; omega) | (subst_vars; simp [upZ] at *; simp only [w32, w64] at *; omega))) | fail)
      | ((with_reducible show swT _ _ _ _); exact trivial)
      | rfl
      | skip
def s_X11_keepL : Sp := rRI 1 11 (fun as Z => match as with
    | [.inr (.inr a0)] => ((a0 = 100)) ∧ (KB Z) ∧ (E1 Z) ∧ (KE Z) ∧ True
    | _ => False) (fun as => match as with
    | [.inr (.inr a0)] => [8100, 3100, 20100, 101, 103, 104, 105, 106, 107, 108, 109, 110, 111, 112, 113, 114, 115, 116, 121, 31100]
    | _ => []) (fun as Z (x : Int) Z' => match as with
    | [.inr (.inr a0)] => (KB Z') ∧ (E1 Z') ∧ (KE Z') ∧ (x = -3 ∧ Z 100 30 = 2 ∧ Z' 100 30 = 2 ∨ x = Z 100 30 + 1 ∧ Z 100 30 ≤ 1 ∧ Z' 100 30 = Z 100 30 + 1) ∧ True
    | _ => False)
set_option maxRecDepth 100000 in
set_option maxHeartbeats 40000000 in
theorem c_X11_keepL {l : Launch} {D : va_G} {cA : Nat → ClassId} : PM l D cA yX11_keep cX11_keep 1 (some .int) 3 75 s_X11_keepL := by
  refine of_X11_keep (c_X11_moveAllP) ⟨rfl, rfl⟩ (fun as σ hwf hao hpre => ?_)
  obtain ⟨n, Z, R⟩ := σ
  obtain ⟨hR, hI, hpre⟩ := hpre
  obtain rfl : R = R0 := hR
  rcases as with _ | ⟨x | x | a0, _ | ⟨v, t⟩⟩ <;> first | exact (hpre : False).elim | skip
  obtain ⟨h0, q0, q1, q2, -⟩ := hpre
  have hk : kp ([8100, 3100, 20100, 101, 103, 104, 105, 106, 107, 108, 109, 110, 111, 112, 113, 114, 115, 116, 121, 31100]) Z Z := kp_refl
  refine ⟨Nat.le_of_ble_eq_true rfl, fun G hG => ?_⟩
  clear hao hwf
  (try dsimp only at q0)
  (try dsimp only at q1)
  (try dsimp only at q2)
  obtain rfl := h0
  refine wq_run hG n R0 [] 900 _ _ _ _ ?_
  repeat' (first
      | refine And.intro ?_ ?_
      | with_reducible rfl
      | (refine ld_bnd (by assumption) rfl ?_; intro (x : Int) _ _ hx; (try dsimp only at hx); subst hx)
      | (intro (x : Int) hx; (try dsimp only at hx); subst hx)
      | refine ld_bnd (by assumption) rfl ?_
      | refine st_k (by assumption) (by assumption) (by first | exact Or.inl (by decide) | exact Or.inr (by decide)) (fun lo hi hb => by first | (cases hb; done) | (cases hb; constructor <;> (first | omega | ((try dsimp only); (first | omega | (simp (disch := omega) only [w32_id, w64_id]; omega) | (simp only [w32, w64]; omega) | (with_reducible refine (and32_le ?_ ?_).1 <;> omega) | (with_reducible refine (and32_le ?_ ?_).2 <;> omega) | (with_reducible refine (mulR ?_ ?_ ?_ ?_).1 <;> omega) | (with_reducible refine (mulR ?_ ?_ ?_ ?_).2 <;> omega) | (simp only [w32, w64] at *; omega) | (simp (disch := omega) only [w32_id, w64_id] at *; omega) | (simp (disch := omega) only [tdiv_nn, tmod_nn, w32_id, w64_id] at *; omega) | (subst_vars; simp [upZ] at *; omega) | (subst_vars; simp [upZ] at *; simp only [w32, w64] at *; omega))) | fail))) ?_
      | (refine st_k (by assumption) (by assumption) (by first | exact Or.inl (by decide) | exact Or.inr (by decide)) (fun lo hi hb => ?_) ?_; (cases hb; refine And.intro ?_ ?_))
      | refine st_same ?_
      | (intro (r : Option PV) σ' hq
         first
         | (obtain ⟨rfl, rfl⟩ := hq)
         | (obtain ⟨rfl, x, rfl, hp⟩ := hq; (try replace hp : _ ∧ _ := hp); (try dsimp only at hp); (try (obtain ⟨hKB, hE, hKS, hKO, -⟩ := hp)))
         | (obtain ⟨Z', (o : Nat), rfl, rfl, hI2, hk2, ⟨⟨hp, rfl⟩ | ⟨hp, rfl⟩, -⟩⟩ := hq <;> ((first | have hk3 := kp_to (by assumption) (by rfl) hk2 | have hk3 := ks_to (by assumption) (by rfl) hk2); (first | have := kpF 100 30 hk2 (by rfl) | have := ksF 100 30 hk2 (by rfl) | skip); (try dsimp only at this); clear hk2))
         | (obtain ⟨Z', x, rfl, rfl, hI2, hk2, hp⟩ := hq; (try replace hp : _ ∧ _ := hp); (try dsimp only at hp); (first | have hk3 := kp_to (by assumption) (by rfl) hk2 | have hk3 := ks_to (by assumption) (by rfl) hk2); (first | have := kpF 100 30 hk2 (by rfl) | have := ksF 100 30 hk2 (by rfl) | skip); (try dsimp only at this); clear hk2; (try (obtain ⟨hKB, hE, hKS, hKO, -⟩ := hp)))
         | (obtain ⟨Z', x, rfl, rfl, hI2, hk2⟩ := hq; have hkn := keeps_nil hk2; clear hk2; subst hkn)
         | (obtain ⟨Z', x, rfl, rfl, hI2, hk2⟩ := hq; (first | have hk3 := kp_to (by assumption) (by rfl) hk2 | have hk3 := ks_to (by assumption) (by rfl) hk2); (first | have := kpF 100 30 hk2 (by rfl) | have := ksF 100 30 hk2 (by rfl) | skip); (try dsimp only at this); clear hk2)
         | (rcases hq with ⟨Z', rfl, rfl, hI2, hk2⟩ | ⟨Z', rfl, rfl, hI2, hk2⟩ <;> ((first | have hk3 := kp_to (by assumption) (by rfl) hk2 | have hk3 := ks_to (by assumption) (by rfl) hk2); (first | have := kpF 100 30 hk2 (by rfl) | have := ksF 100 30 hk2 (by rfl) | skip); (try dsimp only at this); clear hk2))
         | (obtain ⟨Z', rfl, rfl, hI2, hk2, hp⟩ := hq; (try replace hp : _ ∧ _ := hp); (try dsimp only at hp); (first | have hk3 := kp_to (by assumption) (by rfl) hk2 | have hk3 := ks_to (by assumption) (by rfl) hk2); (first | have := kpF 100 30 hk2 (by rfl) | have := ksF 100 30 hk2 (by rfl) | skip); (try dsimp only at this); clear hk2; (try (obtain ⟨hKB, hE, hKS, hKO, -⟩ := hp)))
         | (obtain ⟨Z', rfl, rfl, hI2, hk2⟩ := hq; (first | have hk3 := kp_to (by assumption) (by rfl) hk2 | have hk3 := ks_to (by assumption) (by rfl) hk2); (first | have := kpF 100 30 hk2 (by rfl) | have := ksF 100 30 hk2 (by rfl) | skip); (try dsimp only at this); clear hk2))
      | (intro hc; (try simp only [cmp3_c] at hc); simp only [cmpI] at hc)
      | (show CI _; assumption)
      | intro (_ : Int)
      | intro (Z' : ZT)
      | intro (_ : CI _)
      | (intro (hkk : kp _ _ _))
      | intro (_ : _ ≤ _)
      | (intro (hup : _ = upZ _ _ _ _); (try dsimp only at hup); (first | have := (congrFun (congrFun hup 100) 30).trans (up_ne (by decide)) | have := (congrFun (congrFun hup 100) 30).trans (up_nk (by decide)) | skip); (try have hKB := KB_o (up_o hup (by decide)) (by assumption)); (try have hE := E1_eq (up_o hup (by decide)) (up_o hup (by decide)) (by assumption)))
      | (intro (hld : _ = _); (try dsimp only at hld))
      | intro (_ : _ < _)
      | intro (_ : _ ≠ _)
      | intro (_ : _ ∨ _))
  all_goals first
    | with_reducible rfl
    | ((with_reducible show _ = _); rfl)
    | ((with_reducible show recvG _ _); rfl)
    | with_reducible exact trivial
    | with_reducible assumption
    | omega
    | (dsimp only; omega)
    | decide
    | (show (0 : Int) < _; omega)
    | (show (0 : Int) < _; simp only [w64] at *; omega)
    | (simp only [w32, w64] at *; omega)
    | (refine Exists.intro _ (Exists.intro _ (And.intro rfl (And.intro rfl ?_))); refine ⟨by assumption, by assumption, ?_⟩; (refine ⟨?_, ?_, ?_, ?_, trivial⟩; (first | done | focus (first | (dsimp only; done) | ((try dsimp only); ((first | with_reducible assumption | exact KB_o (by assumption) (by assumption) | fail))))); (first | done | focus (first | (dsimp only; done) | ((try dsimp only); ((first | with_reducible assumption | exact E1_eq (by assumption) (by assumption) (by assumption) | fail))))); (first | done | focus (first | (dsimp only; done) | ((try dsimp only); ((first | with_reducible assumption | (refine KE_k (by assumption) (by assumption) (by assumption) hup ?_ rfl ?_ ?_ <;> (first | omega | (simp (disch := omega) only [w32_id]; first | done | omega))) | fail))))); (first | done | focus (first | (dsimp only; done) | ((try dsimp only); (first | omega | with_reducible assumption | with_reducible rfl | (first | omega | ((try dsimp only); (first | omega | (simp (disch := omega) only [w32_id, w64_id]; omega) | (simp only [w32, w64]; omega) | (with_reducible refine (and32_le ?_ ?_).1 <;> omega) | (with_reducible refine (and32_le ?_ ?_).2 <;> omega) | (with_reducible refine (mulR ?_ ?_ ?_ ?_).1 <;> omega) | (with_reducible refine (mulR ?_ ?_ ?_ ?_).2 <;> omega) | (simp only [w32, w64] at *; omega) | (simp (disch := omega) only [w32_id, w64_id] at *; omega) | (simp (disch := omega) only [tdiv_nn, tmod_nn, w32_id, w64_id] at *; omega) | (subst_vars; simp [upZ] at *; omega) | (subst_vars; simp [upZ] at *; simp only [w32, w64] at *; omega))) | fail) | fail))))))
    | (first | omega | ((try dsimp only); (first | omega | (simp (disch := omega) only [w32_id, w64_id]; omega) | (simp only [w32, w64]; omega) | (with_reducible refine (and32_le ?_ ?_).1 <;> omega) | (with_reducible refine (and32_le ?_ ?_).2 <;> omega) | (with_reducible refine (mulR ?_ ?_ ?_ ?_).1 <;> omega) | (with_reducible refine (mulR ?_ ?_ ?_ ?_).2 <;> omega) | (simp only [w32, w64] at *; omega) | (simp (disch := omega) only [w32_id, w64_id] at *; omega) | (simp (disch := omega) only [tdiv_nn, tmod_nn, w32_id, w64_id] at *; omega) | (subst_vars; simp [upZ] at *; omega) | (subst_vars; simp [upZ] at *; simp only [w32, w64] at *; omega))) | fail)
    | ((with_reducible show swT _ _ _ _); exact trivial)
    | rfl
    | skip
def s_X11_backL : Sp := rRI 1 11 (fun as Z => match as with
    | [.inr (.inr a0)] => ((a0 = 100)) ∧ (KB Z) ∧ (E1 Z) ∧ (KE Z) ∧ True
    | _ => False) (fun as => match as with
    | [.inr (.inr a0)] => [8100, 3100, 20100, 101, 103, 104, 105, 106, 107, 108, 109, 110, 111, 112, 113, 114, 115, 116, 121, 31100]
    | _ => []) (fun as Z (x : Int) Z' => match as with
    | [.inr (.inr a0)] => (KB Z') ∧ (E1 Z') ∧ (KE Z') ∧ (x = -2 ∧ Z 100 30 = 0 ∧ Z' 100 30 = 0 ∨ x = Z 100 30 - 1 ∧ 1 ≤ Z 100 30 ∧ Z' 100 30 = Z 100 30 - 1) ∧ True
    | _ => False)
set_option maxRecDepth 100000 in
set_option maxHeartbeats 40000000 in
theorem c_X11_backL {l : Launch} {D : va_G} {cA : Nat → ClassId} : PM l D cA yX11_back cX11_back 1 (some .int) 3 75 s_X11_backL := by
  refine of_X11_back (c_X11_moveAllB) ⟨rfl, rfl⟩ (fun as σ hwf hao hpre => ?_)
  obtain ⟨n, Z, R⟩ := σ
  obtain ⟨hR, hI, hpre⟩ := hpre
  obtain rfl : R = R0 := hR
  rcases as with _ | ⟨x | x | a0, _ | ⟨v, t⟩⟩ <;> first | exact (hpre : False).elim | skip
  obtain ⟨h0, q0, q1, q2, -⟩ := hpre
  have hk : kp ([8100, 3100, 20100, 101, 103, 104, 105, 106, 107, 108, 109, 110, 111, 112, 113, 114, 115, 116, 121, 31100]) Z Z := kp_refl
  refine ⟨Nat.le_of_ble_eq_true rfl, fun G hG => ?_⟩
  clear hao hwf
  (try dsimp only at q0)
  (try dsimp only at q1)
  (try dsimp only at q2)
  obtain rfl := h0
  have e121 : Z 121 = Z 121 := rfl
  refine wq_run hG n R0 [] 900 _ _ _ _ ?_
  repeat' (first
      | refine And.intro ?_ ?_
      | with_reducible rfl
      | ((with_reducible show KSn _ _ _); refine KE_b (by assumption) (by assumption) ?_ ?_ <;> (first | omega | (simp (disch := omega) only [w32_id]; first | done | omega)))
      | (refine ld_bnd (by assumption) rfl ?_; intro (x : Int) _ _ hx; (try dsimp only at hx); subst hx)
      | (intro (x : Int) hx; (try dsimp only at hx); subst hx)
      | refine ld_bnd (by assumption) rfl ?_
      | refine st_k (by assumption) (by assumption) (by first | exact Or.inl (by decide) | exact Or.inr (by decide)) (fun lo hi hb => by first | (cases hb; done) | (cases hb; constructor <;> (first | omega | ((try dsimp only); (first | omega | (simp (disch := omega) only [w32_id, w64_id]; omega) | (simp only [w32, w64]; omega) | (with_reducible refine (and32_le ?_ ?_).1 <;> omega) | (with_reducible refine (and32_le ?_ ?_).2 <;> omega) | (with_reducible refine (mulR ?_ ?_ ?_ ?_).1 <;> omega) | (with_reducible refine (mulR ?_ ?_ ?_ ?_).2 <;> omega) | (simp only [w32, w64] at *; omega) | (simp (disch := omega) only [w32_id, w64_id] at *; omega) | (simp (disch := omega) only [tdiv_nn, tmod_nn, w32_id, w64_id] at *; omega) | (subst_vars; simp [upZ] at *; omega) | (subst_vars; simp [upZ] at *; simp only [w32, w64] at *; omega))) | fail))) ?_
      | (refine st_k (by assumption) (by assumption) (by first | exact Or.inl (by decide) | exact Or.inr (by decide)) (fun lo hi hb => ?_) ?_; (cases hb; refine And.intro ?_ ?_))
      | refine st_same ?_
      | (intro (r : Option PV) σ' hq
         first
         | (obtain ⟨rfl, rfl⟩ := hq)
         | (obtain ⟨rfl, x, rfl, hp⟩ := hq; (try replace hp : _ ∧ _ := hp); (try dsimp only at hp); (try (obtain ⟨hKB, hE, hq1, -⟩ := hp; have e121 := hq1.trans e121)))
         | (obtain ⟨Z', (o : Nat), rfl, rfl, hI2, hk2, ⟨⟨hp, rfl⟩ | ⟨hp, rfl⟩, -⟩⟩ := hq <;> ((first | have hk3 := kp_to (by assumption) (by rfl) hk2 | have hk3 := ks_to (by assumption) (by rfl) hk2); (try have e121 := (kp_av (o := 121) hk2 (by rfl) (by decide)).trans e121); (first | have := kpF 100 30 hk2 (by rfl) | have := ksF 100 30 hk2 (by rfl) | skip); (try dsimp only at this); clear hk2))
         | (obtain ⟨Z', x, rfl, rfl, hI2, hk2, hp⟩ := hq; (try replace hp : _ ∧ _ := hp); (try dsimp only at hp); (first | have hk3 := kp_to (by assumption) (by rfl) hk2 | have hk3 := ks_to (by assumption) (by rfl) hk2); (try have e121 := (kp_av (o := 121) hk2 (by rfl) (by decide)).trans e121); (first | have := kpF 100 30 hk2 (by rfl) | have := ksF 100 30 hk2 (by rfl) | skip); (try dsimp only at this); clear hk2; (try (obtain ⟨hKB, hE, hq1, -⟩ := hp; have e121 := hq1.trans e121)))
         | (obtain ⟨Z', x, rfl, rfl, hI2, hk2⟩ := hq; have hkn := keeps_nil hk2; clear hk2; subst hkn)
         | (obtain ⟨Z', x, rfl, rfl, hI2, hk2⟩ := hq; (first | have hk3 := kp_to (by assumption) (by rfl) hk2 | have hk3 := ks_to (by assumption) (by rfl) hk2); (try have e121 := (kp_av (o := 121) hk2 (by rfl) (by decide)).trans e121); (first | have := kpF 100 30 hk2 (by rfl) | have := ksF 100 30 hk2 (by rfl) | skip); (try dsimp only at this); clear hk2)
         | (rcases hq with ⟨Z', rfl, rfl, hI2, hk2⟩ | ⟨Z', rfl, rfl, hI2, hk2⟩ <;> ((first | have hk3 := kp_to (by assumption) (by rfl) hk2 | have hk3 := ks_to (by assumption) (by rfl) hk2); (try have e121 := (kp_av (o := 121) hk2 (by rfl) (by decide)).trans e121); (first | have := kpF 100 30 hk2 (by rfl) | have := ksF 100 30 hk2 (by rfl) | skip); (try dsimp only at this); clear hk2))
         | (obtain ⟨Z', rfl, rfl, hI2, hk2, hp⟩ := hq; (try replace hp : _ ∧ _ := hp); (try dsimp only at hp); (first | have hk3 := kp_to (by assumption) (by rfl) hk2 | have hk3 := ks_to (by assumption) (by rfl) hk2); (try have e121 := (kp_av (o := 121) hk2 (by rfl) (by decide)).trans e121); (first | have := kpF 100 30 hk2 (by rfl) | have := ksF 100 30 hk2 (by rfl) | skip); (try dsimp only at this); clear hk2; (try (obtain ⟨hKB, hE, hq1, -⟩ := hp; have e121 := hq1.trans e121)))
         | (obtain ⟨Z', rfl, rfl, hI2, hk2⟩ := hq; (first | have hk3 := kp_to (by assumption) (by rfl) hk2 | have hk3 := ks_to (by assumption) (by rfl) hk2); (try have e121 := (kp_av (o := 121) hk2 (by rfl) (by decide)).trans e121); (first | have := kpF 100 30 hk2 (by rfl) | have := ksF 100 30 hk2 (by rfl) | skip); (try dsimp only at this); clear hk2))
      | (intro hc; (try simp only [cmp3_c] at hc); simp only [cmpI] at hc)
      | (show CI _; assumption)
      | intro (_ : Int)
      | intro (Z' : ZT)
      | intro (_ : CI _)
      | (intro (hkk : kp _ _ _))
      | intro (_ : _ ≤ _)
      | (intro (hup : _ = upZ _ _ _ _); (try dsimp only at hup); (first | have := (congrFun (congrFun hup 100) 30).trans (up_ne (by decide)) | have := (congrFun (congrFun hup 100) 30).trans (up_nk (by decide)) | skip); (try have e121 := (up_o hup (by decide)).trans e121); (try simp (disch := omega) only [w32_id] at hld); (try have hKB := KB_o (up_o hup (by decide)) (by assumption)); (try have hE := E1_eq (up_o hup (by decide)) (up_o hup (by decide)) (by assumption)))
      | (intro (hld : _ = _); (try dsimp only at hld))
      | intro (_ : _ < _)
      | intro (_ : _ ≠ _)
      | intro (_ : _ ∨ _))
  all_goals first
    | with_reducible rfl
    | ((with_reducible show _ = _); rfl)
    | ((with_reducible show recvG _ _); rfl)
    | with_reducible exact trivial
    | with_reducible assumption
    | ((with_reducible show KSn _ _ _); refine KE_b (by assumption) (by assumption) ?_ ?_ <;> (first | omega | (simp (disch := omega) only [w32_id]; first | done | omega)))
    | omega
    | (dsimp only; omega)
    | decide
    | (show (0 : Int) < _; omega)
    | (show (0 : Int) < _; simp only [w64] at *; omega)
    | (simp only [w32, w64] at *; omega)
    | (refine Exists.intro _ (Exists.intro _ (And.intro rfl (And.intro rfl ?_))); refine ⟨by assumption, by assumption, ?_⟩; (refine ⟨?_, ?_, ?_, ?_, trivial⟩; (first | done | focus (first | (dsimp only; done) | ((try dsimp only); ((first | with_reducible assumption | exact KB_o (by assumption) (by assumption) | fail))))); (first | done | focus (first | (dsimp only; done) | ((try dsimp only); ((first | with_reducible assumption | exact E1_eq (by assumption) (by assumption) (by assumption) | fail))))); (first | done | focus (first | (dsimp only; done) | ((try dsimp only); ((first | with_reducible assumption | (refine KE_c (by assumption) (by assumption) ?_; (first | omega | (simp (disch := omega) only [w32_id]; first | done | omega))) | fail))))); (first | done | focus (first | (dsimp only; done) | ((try dsimp only); (first | omega | with_reducible assumption | with_reducible rfl | (first | omega | ((try dsimp only); (first | omega | (simp (disch := omega) only [w32_id, w64_id]; omega) | (simp only [w32, w64]; omega) | (with_reducible refine (and32_le ?_ ?_).1 <;> omega) | (with_reducible refine (and32_le ?_ ?_).2 <;> omega) | (with_reducible refine (mulR ?_ ?_ ?_ ?_).1 <;> omega) | (with_reducible refine (mulR ?_ ?_ ?_ ?_).2 <;> omega) | (simp only [w32, w64] at *; omega) | (simp (disch := omega) only [w32_id, w64_id] at *; omega) | (simp (disch := omega) only [tdiv_nn, tmod_nn, w32_id, w64_id] at *; omega) | (subst_vars; simp [upZ] at *; omega) | (subst_vars; simp [upZ] at *; simp only [w32, w64] at *; omega))) | fail) | fail))))))
    | (first | omega | ((try dsimp only); (first | omega | (simp (disch := omega) only [w32_id, w64_id]; omega) | (simp only [w32, w64]; omega) | (with_reducible refine (and32_le ?_ ?_).1 <;> omega) | (with_reducible refine (and32_le ?_ ?_).2 <;> omega) | (with_reducible refine (mulR ?_ ?_ ?_ ?_).1 <;> omega) | (with_reducible refine (mulR ?_ ?_ ?_ ?_).2 <;> omega) | (simp only [w32, w64] at *; omega) | (simp (disch := omega) only [w32_id, w64_id] at *; omega) | (simp (disch := omega) only [tdiv_nn, tmod_nn, w32_id, w64_id] at *; omega) | (subst_vars; simp [upZ] at *; omega) | (subst_vars; simp [upZ] at *; simp only [w32, w64] at *; omega))) | fail)
    | ((with_reducible show swT _ _ _ _); exact trivial)
    | rfl
    | skip
