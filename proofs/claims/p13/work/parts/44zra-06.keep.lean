/-! ===== numbers reckoned: what the boards hold stays right ===== -/
def s_X10_reckonWithoutN : Sp := rRV 3 10 (fun as Z => match as with
    | [.inr (.inr a0), .inl a1, .inl a2] => ((a0 = 1)) ∧ (True) ∧ (True) ∧ (NBS Z) ∧ (NBF Z) ∧ (NBB Z) ∧ (0 ≤ a2 ∧ a2 ≤ 12) ∧ True
    | _ => False) (fun as => match as with
    | [.inr (.inr a0), .inl a1, .inl a2] => [73, 75, 4074, 5072, 5074]
    | _ => []) (fun as Z Z' => match as with
    | [.inr (.inr a0), .inl a1, .inl a2] => (NBB Z') ∧ (Z' 74 3 = a1) ∧ (a2 ≤ Z' 74 4 ∧ 0 ≤ Z' 74 4) ∧ (a2 ≤ Z' 72 4 ∧ 0 ≤ Z' 72 4) ∧ True
    | _ => False)
set_option maxRecDepth 100000 in
set_option maxHeartbeats 40000000 in
theorem c_X10_reckonWithoutN {l : Launch} {D : va_G} {cA : Nat → ClassId} : PM l D cA yX10_reckonWithout cX10_reckonWithout 3 none 5 141 s_X10_reckonWithoutN := by
  refine of_X10_reckonWithout (c_X0_restartN) ⟨rfl, rfl⟩ (c_X0_reachN) ⟨rfl, rfl⟩ (fun as σ hwf hao hpre => ?_)
  obtain ⟨n, Z, R⟩ := σ
  obtain ⟨hR, hI, hpre⟩ := hpre
  obtain rfl : R = R0 := hR
  (try replace hI : CI Z := hI)
  rcases as with _ | ⟨x | x | a0, _ | ⟨a1 | x | x, _ | ⟨a2 | x | x, _ | ⟨v, t⟩⟩⟩⟩ <;> first | exact (hpre : False).elim | skip
  obtain ⟨k1l, k1u⟩ : okI a1 := hao (vi a1) (by simp)
  obtain ⟨k2l, k2u⟩ : okI a2 := hao (vi a2) (by simp)
  obtain ⟨h0, h1, h2, q0, q1, q2, q3, -⟩ := hpre
  have hk : kp ([73, 75, 4074, 5072, 5074]) Z Z := kp_refl
  refine ⟨Nat.le_of_ble_eq_true rfl, fun G hG => ?_⟩
  clear hao hwf
  (try dsimp only at q0)
  (try dsimp only at q1)
  (try dsimp only at q2)
  (try dsimp only at q3)
  obtain rfl := h0
  have hb70 : BM Z 70 2 := q2.1
  have hb72 : BM Z 72 2 := q2.2.1
  have hb74 : BM Z 74 2 := q2.2.2.1
  have hb76 : B76 Z := q2.2.2.2
  have hns := q0
  have hnf := q1
  refine wq_run hG n R0 [] 900 _ _ _ _ ?_
  repeat' (first
      | with_reducible rfl
      | ((with_reducible show NBS _); first | exact hns | exact q0)
      | ((with_reducible show NBF _); first | exact hnf | exact q1)
      | ((with_reducible show FRR _); exact hns.1)
      | ((with_reducible show PLW _); exact hns.2.2.1)
      | ((with_reducible show ORD _ _); exact hns.2.2.2.2.1)
      | ((with_reducible show BM _ 70 2); exact hb70)
      | ((with_reducible show BM _ 72 2); exact hb72)
      | ((with_reducible show BM _ 74 2); first | exact hb74 | exact BM_n (by omega))
      | ((with_reducible show NBB _); exact NBB_i hb70 hb72 hb74 hb76)
      | refine And.intro ?_ ?_
      | with_reducible exact True.intro
      | ((with_reducible show _ = true); rfl)
      | ((with_reducible show recvG _ _); rfl)
      | ((with_reducible show CI _); first | with_reducible assumption | assumption)
      | (fail_if_success (first | (with_reducible show _ ≤ _) | (with_reducible show _ = _) | (with_reducible show _ ∨ _) | (with_reducible show _ < _) | (with_reducible show G _ _ _ _))
         first
         | show G _ _ _ _
         | (refine ld_bnd (by first | with_reducible assumption | assumption) rfl ?_; intro _ _ _ hld; (try dsimp only at hld); (try simp only [Nat.reduceAdd] at hld))
         | (refine st_k (by first | with_reducible assumption | assumption) (by first | with_reducible assumption | assumption) (by first | exact Or.inl (by decide) | exact Or.inr (by decide)) (fun lo hi hb => by first | (cases hb; done) | (cases hb; constructor <;> (first | omega | ((try dsimp only); (first | omega | (simp (disch := omega) only [w32_id, w64_id]; omega) | (simp only [w32, w64]; omega) | (with_reducible refine (and32_le ?_ ?_).1 <;> omega) | (with_reducible refine (and32_le ?_ ?_).2 <;> omega) | (with_reducible refine (mulR ?_ ?_ ?_ ?_).1 <;> omega) | (with_reducible refine (mulR ?_ ?_ ?_ ?_).2 <;> omega) | (simp only [w32, w64] at *; omega) | (simp (disch := omega) only [w32_id, w64_id] at *; omega) | (simp (disch := omega) only [tdiv_nn, tmod_nn, w32_id, w64_id] at *; omega) | (subst_vars; simp [upZ] at *; omega) | (subst_vars; simp [upZ] at *; simp only [w32, w64] at *; omega))) | fail))) ?_; intro Z' _ hkk; intro hld; (try dsimp only at hld); (try simp only [Nat.reduceAdd] at hld); intro hup; (try dsimp only at hup); (first | have := (congrFun (congrFun hup 74) 3).trans (up_ne (by decide)) | have := (congrFun (congrFun hup 74) 3).trans (up_nk (o := 74) (by decide)) | skip); (first | have := (congrFun (congrFun hup 74) 4).trans (up_ne (by decide)) | have := (congrFun (congrFun hup 74) 4).trans (up_nk (o := 74) (by decide)) | skip); (try have hb70 := BMk 70 2 (kp_one hup) (by rfl) hb70); (try have hb72 := BMk 72 2 (kp_one hup) (by rfl) hb72); (try have hb74 := BMk 74 2 (kp_one hup) (by rfl) hb74); (try have hb76 := B76k (kp_one hup) (by rfl) hb76); (try have hns := NBS_kp (kp_one hup) (by rfl) hns); (try have hnf := NBF_k (kp_one hup) (by rfl) hnf))
         | (refine st_k (by first | with_reducible assumption | assumption) (by first | with_reducible assumption | assumption) (by first | exact Or.inl (by decide) | exact Or.inr (by decide)) (fun lo hi hb => ?_) ?_; (cases hb; refine And.intro ?_ ?_))
         | refine st_same ?_
         | (intro (r : Option PV) σ' hq
            first
            | (obtain ⟨rfl, x, rfl, hp⟩ := hq; (try replace hp : _ ∧ _ := hp); (try dsimp only at hp); (first | (have hb70 : BM _ 70 2 := hp.2.1; have hd70 := hp.1) | (have hb72 : BM _ 72 2 := hp.2.1; have hd72 := hp.1) | (have hb74 : BM _ 74 2 := hp.2.1; have hd74 := hp.1) | (have hbs : BM _ 76 4 := hp.2.1; have hd76 := hp.1) | skip))
            | (obtain ⟨Z', (o : Nat), rfl, rfl, hI2, hk2, ⟨⟨hp, rfl⟩ | ⟨hp, rfl⟩, -⟩⟩ := hq <;> ((first | have hk3 := kp_to (by first | with_reducible assumption | assumption) (by rfl) hk2 | have hk3 := ks_to (by first | with_reducible assumption | assumption) (by rfl) hk2); (try have hb70 := BMk 70 2 hk2 (by rfl) hb70); (try have hb72 := BMk 72 2 hk2 (by rfl) hb72); (try have hb74 := BMk 74 2 hk2 (by rfl) hb74); (try have hb76 := B76k hk2 (by rfl) hb76); (try have hns := NBS_kp hk2 (by rfl) hns); (try have hnf := NBF_k hk2 (by rfl) hnf); (first | have := kpF 74 3 hk2 (by rfl) | have := ksF 74 3 hk2 (by rfl) | skip); (try dsimp only at this); (first | have := kpF 74 4 hk2 (by rfl) | have := ksF 74 4 hk2 (by rfl) | skip); (try dsimp only at this); (first | have := kpF 72 4 hk2 (by rfl) | have := ksF 72 4 hk2 (by rfl) | skip); (try dsimp only at this); clear hk2))
            | (obtain ⟨Z', x, rfl, rfl, hI2, hk2, hp⟩ := hq; (try replace hp : _ ∧ _ := hp); (try dsimp only at hp); (first | have hk3 := kp_to (by first | with_reducible assumption | assumption) (by rfl) hk2 | have hk3 := ks_to (by first | with_reducible assumption | assumption) (by rfl) hk2); (try have hb70 := BMk 70 2 hk2 (by rfl) hb70); (try have hb72 := BMk 72 2 hk2 (by rfl) hb72); (try have hb74 := BMk 74 2 hk2 (by rfl) hb74); (try have hb76 := B76k hk2 (by rfl) hb76); (try have hns := NBS_kp hk2 (by rfl) hns); (try have hnf := NBF_k hk2 (by rfl) hnf); (first | have := kpF 74 3 hk2 (by rfl) | have := ksF 74 3 hk2 (by rfl) | skip); (try dsimp only at this); (first | have := kpF 74 4 hk2 (by rfl) | have := ksF 74 4 hk2 (by rfl) | skip); (try dsimp only at this); (first | have := kpF 72 4 hk2 (by rfl) | have := ksF 72 4 hk2 (by rfl) | skip); (try dsimp only at this); clear hk2; (first | (have hb70 : BM _ 70 2 := hp.2.1; have hd70 := hp.1) | (have hb72 : BM _ 72 2 := hp.2.1; have hd72 := hp.1) | (have hb74 : BM _ 74 2 := hp.2.1; have hd74 := hp.1) | (have hbs : BM _ 76 4 := hp.2.1; have hd76 := hp.1) | skip))
            | (obtain ⟨Z', rfl, rfl, hI2, hk2, hp⟩ := hq; (try replace hp : _ ∧ _ := hp); (try dsimp only at hp); (first | have hk3 := kp_to (by first | with_reducible assumption | assumption) (by rfl) hk2 | have hk3 := ks_to (by first | with_reducible assumption | assumption) (by rfl) hk2); (try have hb70 := BMk 70 2 hk2 (by rfl) hb70); (try have hb72 := BMk 72 2 hk2 (by rfl) hb72); (try have hb74 := BMk 74 2 hk2 (by rfl) hb74); (try have hb76 := B76k hk2 (by rfl) hb76); (try have hns := NBS_kp hk2 (by rfl) hns); (try have hnf := NBF_k hk2 (by rfl) hnf); (first | have := kpF 74 3 hk2 (by rfl) | have := ksF 74 3 hk2 (by rfl) | skip); (try dsimp only at this); (first | have := kpF 74 4 hk2 (by rfl) | have := ksF 74 4 hk2 (by rfl) | skip); (try dsimp only at this); (first | have := kpF 72 4 hk2 (by rfl) | have := ksF 72 4 hk2 (by rfl) | skip); (try dsimp only at this); clear hk2; (first | (have hb70 : BM _ 70 2 := hp.2.1; have hd70 := hp.1) | (have hb72 : BM _ 72 2 := hp.2.1; have hd72 := hp.1) | (have hb74 : BM _ 74 2 := hp.2.1; have hd74 := hp.1) | (have hbs : BM _ 76 4 := hp.2.1; have hd76 := hp.1) | skip))
            | (obtain ⟨rfl, rfl⟩ := hq)
            | (obtain ⟨Z', x, rfl, rfl, hI2, hk2⟩ := hq; have hkn := keeps_nil hk2; clear hk2; subst hkn)
            | (obtain ⟨Z', x, rfl, rfl, hI2, hk2⟩ := hq; (first | have hk3 := kp_to (by first | with_reducible assumption | assumption) (by rfl) hk2 | have hk3 := ks_to (by first | with_reducible assumption | assumption) (by rfl) hk2); (try have hb70 := BMk 70 2 hk2 (by rfl) hb70); (try have hb72 := BMk 72 2 hk2 (by rfl) hb72); (try have hb74 := BMk 74 2 hk2 (by rfl) hb74); (try have hb76 := B76k hk2 (by rfl) hb76); (try have hns := NBS_kp hk2 (by rfl) hns); (try have hnf := NBF_k hk2 (by rfl) hnf); (first | have := kpF 74 3 hk2 (by rfl) | have := ksF 74 3 hk2 (by rfl) | skip); (try dsimp only at this); (first | have := kpF 74 4 hk2 (by rfl) | have := ksF 74 4 hk2 (by rfl) | skip); (try dsimp only at this); (first | have := kpF 72 4 hk2 (by rfl) | have := ksF 72 4 hk2 (by rfl) | skip); (try dsimp only at this); clear hk2)
            | (rcases hq with ⟨Z', rfl, rfl, hI2, hk2⟩ | ⟨Z', rfl, rfl, hI2, hk2⟩ <;> ((first | have hk3 := kp_to (by first | with_reducible assumption | assumption) (by rfl) hk2 | have hk3 := ks_to (by first | with_reducible assumption | assumption) (by rfl) hk2); (try have hb70 := BMk 70 2 hk2 (by rfl) hb70); (try have hb72 := BMk 72 2 hk2 (by rfl) hb72); (try have hb74 := BMk 74 2 hk2 (by rfl) hb74); (try have hb76 := B76k hk2 (by rfl) hb76); (try have hns := NBS_kp hk2 (by rfl) hns); (try have hnf := NBF_k hk2 (by rfl) hnf); (first | have := kpF 74 3 hk2 (by rfl) | have := ksF 74 3 hk2 (by rfl) | skip); (try dsimp only at this); (first | have := kpF 74 4 hk2 (by rfl) | have := ksF 74 4 hk2 (by rfl) | skip); (try dsimp only at this); (first | have := kpF 72 4 hk2 (by rfl) | have := ksF 72 4 hk2 (by rfl) | skip); (try dsimp only at this); clear hk2))
            | (obtain ⟨Z', rfl, rfl, hI2, hk2⟩ := hq; (first | have hk3 := kp_to (by first | with_reducible assumption | assumption) (by rfl) hk2 | have hk3 := ks_to (by first | with_reducible assumption | assumption) (by rfl) hk2); (try have hb70 := BMk 70 2 hk2 (by rfl) hb70); (try have hb72 := BMk 72 2 hk2 (by rfl) hb72); (try have hb74 := BMk 74 2 hk2 (by rfl) hb74); (try have hb76 := B76k hk2 (by rfl) hb76); (try have hns := NBS_kp hk2 (by rfl) hns); (try have hnf := NBF_k hk2 (by rfl) hnf); (first | have := kpF 74 3 hk2 (by rfl) | have := ksF 74 3 hk2 (by rfl) | skip); (try dsimp only at this); (first | have := kpF 74 4 hk2 (by rfl) | have := ksF 74 4 hk2 (by rfl) | skip); (try dsimp only at this); (first | have := kpF 72 4 hk2 (by rfl) | have := ksF 72 4 hk2 (by rfl) | skip); (try dsimp only at this); clear hk2))
         | (intro hc; (try simp only [cmp3_c] at hc); simp only [cmpI] at hc)
         | (show CI _; assumption)
         | intro (_ : Int)
         | intro (Z' : ZT)
         | intro (_ : CI _)
         | (intro (hkk : kp _ _ _))
         | intro (_ : _ ≤ _)
         | (intro (hup : _ = upZ _ _ _ _); (try dsimp only at hup); (first | have := (congrFun (congrFun hup 74) 3).trans (up_ne (by decide)) | have := (congrFun (congrFun hup 74) 3).trans (up_nk (o := 74) (by decide)) | skip); (first | have := (congrFun (congrFun hup 74) 4).trans (up_ne (by decide)) | have := (congrFun (congrFun hup 74) 4).trans (up_nk (o := 74) (by decide)) | skip); (try have hb70 := BMk 70 2 (kp_one hup) (by rfl) hb70); (try have hb72 := BMk 72 2 (kp_one hup) (by rfl) hb72); (try have hb74 := BMk 74 2 (kp_one hup) (by rfl) hb74); (try have hb76 := B76k (kp_one hup) (by rfl) hb76); (try have hns := NBS_kp (kp_one hup) (by rfl) hns); (try have hnf := NBF_k (kp_one hup) (by rfl) hnf))
         | (intro (hld : _ = _); (try dsimp only at hld); (try simp only [Nat.reduceAdd] at hld))
         | intro (_ : _ < _)
         | intro (_ : _ ≠ _)
         | intro (_ : _ ∨ _)))
  all_goals first
    | with_reducible rfl
    | ((with_reducible show _ = _); rfl)
    | ((with_reducible show recvG _ _); rfl)
    | with_reducible exact trivial
    | with_reducible assumption
    | ((with_reducible show NRW _ 2); exact hns.2.1)
    | ((with_reducible show NWC _); exact hns.2.2.2.1)
    | ((with_reducible show _ = _); first | exact hnf.1.1 | exact hnf.1.2.1 | exact hnf.1.2.2.1 | exact hnf.1.2.2.2)
    | ((with_reducible show _ ≤ _); (show _ ≤ (36 : Int)); have hgc := (by assumption : CI _) 2 2 4 36 rfl; exact hgc.2)
    | ((with_reducible show _ ≤ _); (try dsimp only); have hsr := hns.2.2.2.2.2; omega)
    | ((fail_if_success (first | (with_reducible show _ ≤ _) | (with_reducible show _ = _) | (with_reducible show _ ∨ _) | (with_reducible show _ < _) | (with_reducible show G _ _ _ _))); (refine Exists.intro _ (And.intro rfl (And.intro rfl ?_)); refine ⟨by assumption, by assumption, ?_⟩; (refine ⟨?_, ?_, ?_, ?_, trivial⟩; (first | done | focus (first | (dsimp only; done) | ((try dsimp only); ((exact NBB_i hb70 hb72 hb74 hb76))))); (first | done | focus (first | (dsimp only; done) | ((try dsimp only); (first | omega | with_reducible assumption | with_reducible rfl | (first | omega | ((try dsimp only); (first | omega | (simp (disch := omega) only [w32_id, w64_id]; omega) | (simp only [w32, w64]; omega) | (with_reducible refine (and32_le ?_ ?_).1 <;> omega) | (with_reducible refine (and32_le ?_ ?_).2 <;> omega) | (with_reducible refine (mulR ?_ ?_ ?_ ?_).1 <;> omega) | (with_reducible refine (mulR ?_ ?_ ?_ ?_).2 <;> omega) | (simp only [w32, w64] at *; omega) | (simp (disch := omega) only [w32_id, w64_id] at *; omega) | (simp (disch := omega) only [tdiv_nn, tmod_nn, w32_id, w64_id] at *; omega) | (subst_vars; simp [upZ] at *; omega) | (subst_vars; simp [upZ] at *; simp only [w32, w64] at *; omega))) | fail) | fail)))); (first | done | focus (first | (dsimp only; done) | ((try dsimp only); ((first | omega | (have h1 := hd74.1; have h2 := hd74.2; exact ⟨by omega, by omega⟩) | fail))))); (first | done | focus (first | (dsimp only; done) | ((try dsimp only); ((first | omega | exact hd72 | fail))))))))
    | ((fail_if_success (first | (with_reducible show _ ≤ _) | (with_reducible show _ = _) | (with_reducible show _ ∨ _) | (with_reducible show _ < _) | (with_reducible show G _ _ _ _))); (refine Exists.intro _ (And.intro rfl (And.intro rfl ?_)); refine ⟨by assumption, by assumption, ?_⟩; simp only [Nat.reduceAdd] at *; (refine ⟨?_, ?_, ?_, ?_, trivial⟩; (first | done | focus (first | (dsimp only; done) | ((try dsimp only); ((exact NBB_i hb70 hb72 hb74 hb76))))); (first | done | focus (first | (dsimp only; done) | ((try dsimp only); (first | omega | with_reducible assumption | with_reducible rfl | (first | omega | ((try dsimp only); (first | omega | (simp (disch := omega) only [w32_id, w64_id]; omega) | (simp only [w32, w64]; omega) | (with_reducible refine (and32_le ?_ ?_).1 <;> omega) | (with_reducible refine (and32_le ?_ ?_).2 <;> omega) | (with_reducible refine (mulR ?_ ?_ ?_ ?_).1 <;> omega) | (with_reducible refine (mulR ?_ ?_ ?_ ?_).2 <;> omega) | (simp only [w32, w64] at *; omega) | (simp (disch := omega) only [w32_id, w64_id] at *; omega) | (simp (disch := omega) only [tdiv_nn, tmod_nn, w32_id, w64_id] at *; omega) | (subst_vars; simp [upZ] at *; omega) | (subst_vars; simp [upZ] at *; simp only [w32, w64] at *; omega))) | fail) | fail)))); (first | done | focus (first | (dsimp only; done) | ((try dsimp only); ((first | omega | (have h1 := hd74.1; have h2 := hd74.2; exact ⟨by omega, by omega⟩) | fail))))); (first | done | focus (first | (dsimp only; done) | ((try dsimp only); ((first | omega | exact hd72 | fail))))))))
    | omega
    | (dsimp only; omega)
    | decide
    | (show (0 : Int) < _; omega)
    | (show (0 : Int) < _; simp only [w64] at *; omega)
    | (simp only [w32, w64] at *; omega)
    | (first | omega | ((try dsimp only); (first | omega | (simp (disch := omega) only [w32_id, w64_id]; omega) | (simp only [w32, w64]; omega) | (with_reducible refine (and32_le ?_ ?_).1 <;> omega) | (with_reducible refine (and32_le ?_ ?_).2 <;> omega) | (with_reducible refine (mulR ?_ ?_ ?_ ?_).1 <;> omega) | (with_reducible refine (mulR ?_ ?_ ?_ ?_).2 <;> omega) | (simp only [w32, w64] at *; omega) | (simp (disch := omega) only [w32_id, w64_id] at *; omega) | (simp (disch := omega) only [tdiv_nn, tmod_nn, w32_id, w64_id] at *; omega) | (subst_vars; simp [upZ] at *; omega) | (subst_vars; simp [upZ] at *; simp only [w32, w64] at *; omega))) | fail)
    | ((with_reducible show swT _ _ _ _); exact trivial)
    | rfl
    | ((fail_if_success (first | (with_reducible show _ ≤ _) | (with_reducible show _ = _) | (with_reducible show _ ∨ _) | (with_reducible show _ < _) | (with_reducible show G _ _ _ _) | (with_reducible show Exists _))); exact trivial)
    | skip
