/-! ===== the reader, exactly: a number, a name ===== -/
def s_X6_readNameX : Sp := rRI 1 6 (fun as Z => match as with
    | [.inr (.inr a0)] => ((a0 = 6)) ∧ (BYT (bC Z)) ∧ True
    | _ => False) (fun as => match as with
    | [.inr (.inr a0)] => [4006, 5006, 6006]
    | _ => []) (fun as Z (x : Int) Z' => match as with
    | [.inr (.inr a0)] => (x = 1 ∧ nmOK (bC Z) (plC Z) (Z 6 3) ∧ Z' 6 3 = nmE (bC Z) (Z 6 3) ∧ Z' 6 5 = nmV (bC Z) (Z 6 3) ∨ x = 0 ∧ ¬nmOK (bC Z) (plC Z) (Z 6 3) ∧ Z' 6 4 = Z 6 3) ∧ True
    | _ => False)
set_option maxRecDepth 100000 in
set_option maxHeartbeats 40000000 in
theorem c_X6_readNameX {l : Launch} {D : va_G} {cA : Nat → ClassId} : PM l D cA yX6_readName cX6_readName 4 (some .boolean) 2 41 s_X6_readNameX := by
  refine of_X6_readName (c_X6_ahead) ⟨rfl, rfl⟩ (c_X10_isLetter) ⟨rfl, rfl⟩ (c_X6_refuseX) ⟨rfl, rfl⟩ (c_X6_sideAheadX) ⟨rfl, rfl⟩ (c_X6_passX) ⟨rfl, rfl⟩ (fun as σ hwf hao hpre => ?_)
  obtain ⟨n, Z, R⟩ := σ
  obtain ⟨hR, hI, hpre⟩ := hpre
  obtain rfl : R = R0 := hR
  (try replace hI : CI Z := hI)
  rcases as with _ | ⟨x | x | a0, _ | ⟨v, t⟩⟩ <;> first | exact (hpre : False).elim | skip
  obtain ⟨h0, q0, -⟩ := hpre
  have hk : kp ([4006, 5006, 6006]) Z Z := kp_refl
  refine ⟨Nat.le_of_ble_eq_true rfl, fun G hG => ?_⟩
  clear hao hwf
  (try dsimp only at q0)
  obtain rfl := h0
  have hb : bC Z = bC Z := rfl
  have hl : plC Z = plC Z := rfl
  have hby := q0 (Z 6 3)
  refine wq_run hG n R0 [] 900 _ _ _ _ ?_
  repeat' (first
      | with_reducible rfl
      | refine And.intro ?_ ?_
      | with_reducible exact True.intro
      | ((with_reducible show _ = true); rfl)
      | ((with_reducible show recvG _ _); rfl)
      | ((with_reducible show CI _); first | with_reducible assumption | assumption)
      | (fail_if_success (first | (with_reducible show _ ≤ _) | (with_reducible show _ = _) | (with_reducible show _ ∨ _) | (with_reducible show _ < _) | (with_reducible show G _ _ _ _))
         first
         | show G _ _ _ _
         | (refine ld_bnd (by first | with_reducible assumption | assumption) rfl ?_; intro _ _ _ hld; (try dsimp only at hld); (try simp only [Nat.reduceAdd] at hld); (try have hpl := (pl_ld hld hah (by omega)).trans (congrFun hl _)); (try simp (disch := omega) only [w32_id, orV, orN] at hld))
         | (refine st_k (by first | with_reducible assumption | assumption) (by first | with_reducible assumption | assumption) (by first | exact Or.inl (by decide) | exact Or.inr (by decide)) (fun lo hi hb => by first | (cases hb; done) | (cases hb; constructor <;> (first | omega | ((try dsimp only); (first | omega | (with_reducible refine (oname ?_ ?_ ?_ ?_).1 <;> omega) | (with_reducible refine (oname ?_ ?_ ?_ ?_).2 <;> omega) | (with_reducible refine (oval3 (by assumption) ?_ ?_ ?_ ?_ ?_).1 <;> omega) | (with_reducible refine (oval3 (by assumption) ?_ ?_ ?_ ?_ ?_).2 <;> omega) | (with_reducible refine (oval ?_ ?_).1 <;> omega) | (with_reducible refine (oval ?_ ?_).2 <;> omega) | (simp (disch := omega) only [w32_id, w64_id]; omega) | (simp only [w32, w64]; omega) | (with_reducible refine (and32_le ?_ ?_).1 <;> omega) | (with_reducible refine (and32_le ?_ ?_).2 <;> omega) | (with_reducible refine (mulR ?_ ?_ ?_ ?_).1 <;> omega) | (with_reducible refine (mulR ?_ ?_ ?_ ?_).2 <;> omega) | (simp only [w32, w64] at *; omega) | (simp (disch := omega) only [w32_id, w64_id] at *; omega) | (simp (disch := omega) only [tdiv_nn, tmod_nn, w32_id, w64_id] at *; omega) | (subst_vars; simp [upZ] at *; omega) | (subst_vars; simp [upZ] at *; simp only [w32, w64] at *; omega))) | fail))) ?_; intro Z' _ hkk; intro hld; (try dsimp only at hld); (try simp only [Nat.reduceAdd] at hld); (try have hpl := (pl_ld hld hah (by omega)).trans (congrFun hl _)); (try simp (disch := omega) only [w32_id, orV, orN] at hld); intro hup; (try dsimp only at hup); (first | have := (congrFun (congrFun hup 6) 3).trans (up_ne (by decide)) | have := (congrFun (congrFun hup 6) 3).trans (up_nk (o := 6) (by decide)) | skip); (first | have := (congrFun (congrFun hup 6) 4).trans (up_ne (by decide)) | have := (congrFun (congrFun hup 6) 4).trans (up_nk (o := 6) (by decide)) | skip); (first | have := (congrFun (congrFun hup 6) 5).trans (up_ne (by decide)) | have := (congrFun (congrFun hup 6) 5).trans (up_nk (o := 6) (by decide)) | skip); (try have hb := (bC_up hup (by decide) (by intro hz; first | exact absurd hz (by decide) | decide | omega)).trans hb); (try have hl := (pl_up hup (by decide)).trans hl))
         | (refine st_k (by first | with_reducible assumption | assumption) (by first | with_reducible assumption | assumption) (by first | exact Or.inl (by decide) | exact Or.inr (by decide)) (fun lo hi hb => ?_) ?_; (cases hb; refine And.intro ?_ ?_))
         | refine st_same ?_
         | (intro (r : Option PV) σ' hq
            first
            | (obtain ⟨rfl, x, rfl, hp⟩ := hq; (try replace hp : _ ∧ _ := hp); (try dsimp only at hp); (first | (have hah := AH_bC hb hp.1; (try have hw97 : w32 (x - 97) = x - 97 := w32_id (by omega) (by omega)); have hl0v : 97 ≤ bC Z (Z 6 3) ∧ bC Z (Z 6 3) ≤ 100 ∨ ¬(97 ≤ bC Z (Z 6 3) ∧ bC Z (Z 6 3) ≤ 100) := by omega) | (have hsd := sd_at hb hp.1 (Z 6 3 + 1) (by omega); have hs4 := sdOf_r (bC Z (Z 6 3 + 1))) | (rw [hb0] at hp; have hps := ps_at hp.1) | skip))
            | (obtain ⟨Z', (o : Nat), rfl, rfl, hI2, hk2, ⟨⟨hp, rfl⟩ | ⟨hp, rfl⟩, -⟩⟩ := hq <;> ((first | have hk3 := kp_to (by first | with_reducible assumption | assumption) (by rfl) hk2 | have hk3 := ks_to (by first | with_reducible assumption | assumption) (by rfl) hk2); (try have hb0 := hb); (try have hl0 := hl); (try have hb := (bC_kp hk2 (by rfl)).trans hb); (try have hl := (pl_kp hk2 (by rfl)).trans hl); (first | have := kpF 6 3 hk2 (by rfl) | have := ksF 6 3 hk2 (by rfl) | skip); (try dsimp only at this); (first | have := kpF 6 4 hk2 (by rfl) | have := ksF 6 4 hk2 (by rfl) | skip); (try dsimp only at this); (first | have := kpF 6 5 hk2 (by rfl) | have := ksF 6 5 hk2 (by rfl) | skip); (try dsimp only at this); clear hk2))
            | (obtain ⟨Z', x, rfl, rfl, hI2, hk2, hp⟩ := hq; (try replace hp : _ ∧ _ := hp); (try dsimp only at hp); (first | have hk3 := kp_to (by first | with_reducible assumption | assumption) (by rfl) hk2 | have hk3 := ks_to (by first | with_reducible assumption | assumption) (by rfl) hk2); (try have hb0 := hb); (try have hl0 := hl); (try have hb := (bC_kp hk2 (by rfl)).trans hb); (try have hl := (pl_kp hk2 (by rfl)).trans hl); (first | have := kpF 6 3 hk2 (by rfl) | have := ksF 6 3 hk2 (by rfl) | skip); (try dsimp only at this); (first | have := kpF 6 4 hk2 (by rfl) | have := ksF 6 4 hk2 (by rfl) | skip); (try dsimp only at this); (first | have := kpF 6 5 hk2 (by rfl) | have := ksF 6 5 hk2 (by rfl) | skip); (try dsimp only at this); clear hk2; (first | (have hah := AH_bC hb hp.1; (try have hw97 : w32 (x - 97) = x - 97 := w32_id (by omega) (by omega)); have hl0v : 97 ≤ bC Z (Z 6 3) ∧ bC Z (Z 6 3) ≤ 100 ∨ ¬(97 ≤ bC Z (Z 6 3) ∧ bC Z (Z 6 3) ≤ 100) := by omega) | (have hsd := sd_at hb hp.1 (Z 6 3 + 1) (by omega); have hs4 := sdOf_r (bC Z (Z 6 3 + 1))) | (rw [hb0] at hp; have hps := ps_at hp.1) | skip))
            | (obtain ⟨Z', rfl, rfl, hI2, hk2, hp⟩ := hq; (try replace hp : _ ∧ _ := hp); (try dsimp only at hp); (first | have hk3 := kp_to (by first | with_reducible assumption | assumption) (by rfl) hk2 | have hk3 := ks_to (by first | with_reducible assumption | assumption) (by rfl) hk2); (try have hb0 := hb); (try have hl0 := hl); (try have hb := (bC_kp hk2 (by rfl)).trans hb); (try have hl := (pl_kp hk2 (by rfl)).trans hl); (first | have := kpF 6 3 hk2 (by rfl) | have := ksF 6 3 hk2 (by rfl) | skip); (try dsimp only at this); (first | have := kpF 6 4 hk2 (by rfl) | have := ksF 6 4 hk2 (by rfl) | skip); (try dsimp only at this); (first | have := kpF 6 5 hk2 (by rfl) | have := ksF 6 5 hk2 (by rfl) | skip); (try dsimp only at this); clear hk2; (first | (have hah := AH_bC hb hp.1; (try have hw97 : w32 (x - 97) = x - 97 := w32_id (by omega) (by omega)); have hl0v : 97 ≤ bC Z (Z 6 3) ∧ bC Z (Z 6 3) ≤ 100 ∨ ¬(97 ≤ bC Z (Z 6 3) ∧ bC Z (Z 6 3) ≤ 100) := by omega) | (have hsd := sd_at hb hp.1 (Z 6 3 + 1) (by omega); have hs4 := sdOf_r (bC Z (Z 6 3 + 1))) | (rw [hb0] at hp; have hps := ps_at hp.1) | skip))
            | (obtain ⟨rfl, rfl⟩ := hq)
            | (obtain ⟨Z', x, rfl, rfl, hI2, hk2⟩ := hq; have hkn := keeps_nil hk2; clear hk2; subst hkn)
            | (obtain ⟨Z', x, rfl, rfl, hI2, hk2⟩ := hq; (first | have hk3 := kp_to (by first | with_reducible assumption | assumption) (by rfl) hk2 | have hk3 := ks_to (by first | with_reducible assumption | assumption) (by rfl) hk2); (try have hb0 := hb); (try have hl0 := hl); (try have hb := (bC_kp hk2 (by rfl)).trans hb); (try have hl := (pl_kp hk2 (by rfl)).trans hl); (first | have := kpF 6 3 hk2 (by rfl) | have := ksF 6 3 hk2 (by rfl) | skip); (try dsimp only at this); (first | have := kpF 6 4 hk2 (by rfl) | have := ksF 6 4 hk2 (by rfl) | skip); (try dsimp only at this); (first | have := kpF 6 5 hk2 (by rfl) | have := ksF 6 5 hk2 (by rfl) | skip); (try dsimp only at this); clear hk2)
            | (rcases hq with ⟨Z', rfl, rfl, hI2, hk2⟩ | ⟨Z', rfl, rfl, hI2, hk2⟩ <;> ((first | have hk3 := kp_to (by first | with_reducible assumption | assumption) (by rfl) hk2 | have hk3 := ks_to (by first | with_reducible assumption | assumption) (by rfl) hk2); (try have hb0 := hb); (try have hl0 := hl); (try have hb := (bC_kp hk2 (by rfl)).trans hb); (try have hl := (pl_kp hk2 (by rfl)).trans hl); (first | have := kpF 6 3 hk2 (by rfl) | have := ksF 6 3 hk2 (by rfl) | skip); (try dsimp only at this); (first | have := kpF 6 4 hk2 (by rfl) | have := ksF 6 4 hk2 (by rfl) | skip); (try dsimp only at this); (first | have := kpF 6 5 hk2 (by rfl) | have := ksF 6 5 hk2 (by rfl) | skip); (try dsimp only at this); clear hk2))
            | (obtain ⟨Z', rfl, rfl, hI2, hk2⟩ := hq; (first | have hk3 := kp_to (by first | with_reducible assumption | assumption) (by rfl) hk2 | have hk3 := ks_to (by first | with_reducible assumption | assumption) (by rfl) hk2); (try have hb0 := hb); (try have hl0 := hl); (try have hb := (bC_kp hk2 (by rfl)).trans hb); (try have hl := (pl_kp hk2 (by rfl)).trans hl); (first | have := kpF 6 3 hk2 (by rfl) | have := ksF 6 3 hk2 (by rfl) | skip); (try dsimp only at this); (first | have := kpF 6 4 hk2 (by rfl) | have := ksF 6 4 hk2 (by rfl) | skip); (try dsimp only at this); (first | have := kpF 6 5 hk2 (by rfl) | have := ksF 6 5 hk2 (by rfl) | skip); (try dsimp only at this); clear hk2))
         | (intro hc; (try simp only [cmp3_c] at hc); simp only [cmpI] at hc)
         | (show CI _; assumption)
         | intro (_ : Int)
         | intro (Z' : ZT)
         | intro (_ : CI _)
         | (intro (hkk : kp _ _ _))
         | intro (_ : _ ≤ _)
         | (intro (hup : _ = upZ _ _ _ _); (try dsimp only at hup); (first | have := (congrFun (congrFun hup 6) 3).trans (up_ne (by decide)) | have := (congrFun (congrFun hup 6) 3).trans (up_nk (o := 6) (by decide)) | skip); (first | have := (congrFun (congrFun hup 6) 4).trans (up_ne (by decide)) | have := (congrFun (congrFun hup 6) 4).trans (up_nk (o := 6) (by decide)) | skip); (first | have := (congrFun (congrFun hup 6) 5).trans (up_ne (by decide)) | have := (congrFun (congrFun hup 6) 5).trans (up_nk (o := 6) (by decide)) | skip); (try have hb := (bC_up hup (by decide) (by intro hz; first | exact absurd hz (by decide) | decide | omega)).trans hb); (try have hl := (pl_up hup (by decide)).trans hl))
         | (intro (hld : _ = _); (try dsimp only at hld); (try simp only [Nat.reduceAdd] at hld); (try have hpl := (pl_ld hld hah (by omega)).trans (congrFun hl _)); (try simp (disch := omega) only [w32_id, orV, orN] at hld))
         | intro (_ : _ < _)
         | intro (_ : _ ≠ _)
         | intro (_ : _ ∨ _)))
  all_goals first
    | with_reducible rfl
    | ((with_reducible show _ = _); rfl)
    | ((with_reducible show recvG _ _); rfl)
    | with_reducible exact trivial
    | with_reducible assumption
    | ((fail_if_success (first | (with_reducible show _ ≤ _) | (with_reducible show _ = _) | (with_reducible show _ ∨ _) | (with_reducible show _ < _) | (with_reducible show G _ _ _ _))); (refine Exists.intro _ (Exists.intro _ (And.intro rfl (And.intro rfl ?_))); refine ⟨by assumption, by assumption, ?_⟩; (refine ⟨?_, trivial⟩; (first | done | focus (first | (dsimp only; done) | ((try dsimp only); ((first | (refine Or.inr ⟨?_, nm_4 ?_, ?_⟩ <;> omega) | (have hs4 := sdOf_r (bC Z (Z 6 3 + 1)); (first | (have hq := nm_q (b := bC Z) (p := Z 6 3) (q := Z 6 3 + 1) (by omega); have hz := hps (Z 6 3 + 1) (by omega)) | (have hq := nm_q (b := bC Z) (p := Z 6 3) (q := Z 6 3 + 2) (by omega); have hz := hps (Z 6 3 + 2) (by omega))); (first | (have g := nm_1 (pl := plC Z) (by omega) hq (by omega); refine Or.inl ⟨?_, g.1, ?_, ?_⟩ <;> first | omega | (rw [g.2.2]; omega)) | (have g := nm_2 (pl := plC Z) (by omega) hq (by omega) (by omega) (by omega); refine Or.inl ⟨?_, g.1, ?_, ?_⟩ <;> omega) | (refine Or.inr ⟨?_, nm_3 hq (by omega) (by omega), ?_⟩ <;> omega))) | fail))))))))
    | ((fail_if_success (first | (with_reducible show _ ≤ _) | (with_reducible show _ = _) | (with_reducible show _ ∨ _) | (with_reducible show _ < _) | (with_reducible show G _ _ _ _))); (refine Exists.intro _ (Exists.intro _ (And.intro rfl (And.intro rfl ?_))); refine ⟨by assumption, by assumption, ?_⟩; simp only [Nat.reduceAdd] at *; (refine ⟨?_, trivial⟩; (first | done | focus (first | (dsimp only; done) | ((try dsimp only); ((first | (refine Or.inr ⟨?_, nm_4 ?_, ?_⟩ <;> omega) | (have hs4 := sdOf_r (bC Z (Z 6 3 + 1)); (first | (have hq := nm_q (b := bC Z) (p := Z 6 3) (q := Z 6 3 + 1) (by omega); have hz := hps (Z 6 3 + 1) (by omega)) | (have hq := nm_q (b := bC Z) (p := Z 6 3) (q := Z 6 3 + 2) (by omega); have hz := hps (Z 6 3 + 2) (by omega))); (first | (have g := nm_1 (pl := plC Z) (by omega) hq (by omega); refine Or.inl ⟨?_, g.1, ?_, ?_⟩ <;> first | omega | (rw [g.2.2]; omega)) | (have g := nm_2 (pl := plC Z) (by omega) hq (by omega) (by omega) (by omega); refine Or.inl ⟨?_, g.1, ?_, ?_⟩ <;> omega) | (refine Or.inr ⟨?_, nm_3 hq (by omega) (by omega), ?_⟩ <;> omega))) | fail))))))))
    | omega
    | (dsimp only; omega)
    | decide
    | (show (0 : Int) < _; omega)
    | (show (0 : Int) < _; simp only [w64] at *; omega)
    | (simp only [w32, w64] at *; omega)
    | (first | omega | ((try dsimp only); (first | omega | (with_reducible refine (oname ?_ ?_ ?_ ?_).1 <;> omega) | (with_reducible refine (oname ?_ ?_ ?_ ?_).2 <;> omega) | (with_reducible refine (oval3 (by assumption) ?_ ?_ ?_ ?_ ?_).1 <;> omega) | (with_reducible refine (oval3 (by assumption) ?_ ?_ ?_ ?_ ?_).2 <;> omega) | (with_reducible refine (oval ?_ ?_).1 <;> omega) | (with_reducible refine (oval ?_ ?_).2 <;> omega) | (simp (disch := omega) only [w32_id, w64_id]; omega) | (simp only [w32, w64]; omega) | (with_reducible refine (and32_le ?_ ?_).1 <;> omega) | (with_reducible refine (and32_le ?_ ?_).2 <;> omega) | (with_reducible refine (mulR ?_ ?_ ?_ ?_).1 <;> omega) | (with_reducible refine (mulR ?_ ?_ ?_ ?_).2 <;> omega) | (simp only [w32, w64] at *; omega) | (simp (disch := omega) only [w32_id, w64_id] at *; omega) | (simp (disch := omega) only [tdiv_nn, tmod_nn, w32_id, w64_id] at *; omega) | (subst_vars; simp [upZ] at *; omega) | (subst_vars; simp [upZ] at *; simp only [w32, w64] at *; omega))) | fail)
    | ((with_reducible show swT _ _ _ _); exact trivial)
    | rfl
    | skip
