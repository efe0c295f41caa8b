def s_X11_skyX : Sp := rRI 3 11 (fun as Z => match as with
    | [.inr (.inr a0), .inl a1, .inl a2] => ((a0 = 100)) ∧ (True) ∧ (True) ∧ True
    | _ => False) (fun as => match as with
    | [.inr (.inr a0), .inl a1, .inl a2] => [112, 117, 120, 1100, 2100, 20100, 31100]
    | _ => []) (fun as Z (x : Int) Z' => match as with
    | [.inr (.inr a0), .inl a1, .inl a2] => (x = -1 ∧ ¬(2 ≤ a1 ∧ a1 ≤ 6 ∧ 2 ≤ a2 ∧ a2 ≤ 6) ∧ (Z' 100 0 = Z 100 0 ∧ Z' 100 1 = Z 100 1 ∧ Z' 100 30 = Z 100 30 ∧ Z' 100 19 = Z 100 19) ∧ (Z' 112 = Z 112 ∧ Z' 120 = Z 120) ∧ Z' 117 = Z 117 ∨ x = a1 * a2 ∧ (2 ≤ a1 ∧ a1 ≤ 6 ∧ 2 ≤ a2 ∧ a2 ≤ 6) ∧ (Z' 100 0 = a1 ∧ Z' 100 1 = a2 ∧ Z' 100 30 = 0 ∧ Z' 100 19 = 0) ∧ (FL Z' 112 2000000 144 ∧ FL Z' 120 0 36) ∧ FL Z' 117 2000000000000 12) ∧ (Z' 100 30 = Z 100 30 ∨ Z' 100 30 = 0) ∧ True
    | _ => False)
set_option maxRecDepth 100000 in
set_option maxHeartbeats 40000000 in
theorem c_X11_skyX {l : Launch} {D : va_G} {cA : Nat → ClassId} : PM l D cA yX11_sky cX11_sky 3 (some .int) 2 42 s_X11_skyX := by
  refine of_X11_sky (c_X11_in) ⟨rfl, rfl⟩ (c_X11_beginsX) ⟨rfl, rfl⟩ (c_X11_cells) ⟨rfl, rfl⟩ (fun as σ hwf hao hpre => ?_)
  obtain ⟨n, Z, R⟩ := σ
  obtain ⟨hR, hI, hpre⟩ := hpre
  obtain rfl : R = R0 := hR
  (try replace hI : CI Z := hI)
  rcases as with _ | ⟨x | x | a0, _ | ⟨a1 | x | x, _ | ⟨a2 | x | x, _ | ⟨v, t⟩⟩⟩⟩ <;> first | exact (hpre : False).elim | skip
  obtain ⟨k1l, k1u⟩ : okI a1 := hao (vi a1) (by simp)
  obtain ⟨k2l, k2u⟩ : okI a2 := hao (vi a2) (by simp)
  obtain ⟨h0, h1, h2, -⟩ := hpre
  have hk : kp ([112, 117, 120, 1100, 2100, 20100, 31100]) Z Z := kp_refl
  refine ⟨Nat.le_of_ble_eq_true rfl, fun G hG => ?_⟩
  clear hao hwf
  obtain rfl := h0
  have e112 : Z 112 = Z 112 := rfl
  have e117 : Z 117 = Z 117 := rfl
  have e120 : Z 120 = Z 120 := rfl
  refine wq_run hG n R0 [] 900 _ _ _ _ ?_
  repeat' (first
      | with_reducible rfl
      | refine And.intro ?_ ?_
      | with_reducible exact True.intro
      | ((with_reducible show _ = true); rfl)
      | ((with_reducible show recvG _ _); rfl)
      | ((with_reducible show CI _); first | with_reducible assumption | assumption)
      | (fail_if_success (first | (with_reducible show _ ≤ _) | (with_reducible show _ = _) | (with_reducible show _ ∨ _) | (with_reducible show _ < _) | (with_reducible show G _ _ _ _))
         first
         | show G _ _ _ _
         | (refine ld_bnd (by first | with_reducible assumption | assumption) rfl ?_; intro _ _ _ hld; (try dsimp only at hld); (try simp only [Nat.reduceAdd] at hld))
         | (refine st_k (by first | with_reducible assumption | assumption) (by first | with_reducible assumption | assumption) (by first | exact Or.inl (by decide) | exact Or.inr (by decide)) (fun lo hi hb => by first | (cases hb; done) | (cases hb; constructor <;> (first | omega | ((try dsimp only); (first | omega | (simp (disch := omega) only [w32_id, w64_id]; omega) | (simp only [w32, w64]; omega) | (with_reducible refine (and32_le ?_ ?_).1 <;> omega) | (with_reducible refine (and32_le ?_ ?_).2 <;> omega) | (with_reducible refine (mulR ?_ ?_ ?_ ?_).1 <;> omega) | (with_reducible refine (mulR ?_ ?_ ?_ ?_).2 <;> omega) | (simp only [w32, w64] at *; omega) | (simp (disch := omega) only [w32_id, w64_id] at *; omega) | (simp (disch := omega) only [tdiv_nn, tmod_nn, w32_id, w64_id] at *; omega) | (subst_vars; simp [upZ] at *; omega) | (subst_vars; simp [upZ] at *; simp only [w32, w64] at *; omega))) | fail))) ?_; intro Z' _ hkk; intro hld; (try dsimp only at hld); (try simp only [Nat.reduceAdd] at hld); intro hup; (try dsimp only at hup); (first | have := (congrFun (congrFun hup 100) 0).trans (up_ne (by decide)) | have := (congrFun (congrFun hup 100) 0).trans (up_nk (o := 100) (by decide)) | skip); (first | have := (congrFun (congrFun hup 100) 1).trans (up_ne (by decide)) | have := (congrFun (congrFun hup 100) 1).trans (up_nk (o := 100) (by decide)) | skip); (first | have := (congrFun (congrFun hup 100) 30).trans (up_ne (by decide)) | have := (congrFun (congrFun hup 100) 30).trans (up_nk (o := 100) (by decide)) | skip); (first | have := (congrFun (congrFun hup 100) 19).trans (up_ne (by decide)) | have := (congrFun (congrFun hup 100) 19).trans (up_nk (o := 100) (by decide)) | skip); (first | have fl112 := FL_up hup fl112 (by first | rfl | omega) (by omega) | have fl112 := FL_o (up_o hup (by decide)) fl112 | skip); (first | have fl117 := FL_up hup fl117 (by first | rfl | omega) (by omega) | have fl117 := FL_o (up_o hup (by decide)) fl117 | skip); (first | have fl120 := FL_up hup fl120 (by first | rfl | omega) (by omega) | have fl120 := FL_o (up_o hup (by decide)) fl120 | skip); (try have e112 := (up_o hup (by decide)).trans e112); (try have e117 := (up_o hup (by decide)).trans e117); (try have e120 := (up_o hup (by decide)).trans e120))
         | (refine st_k (by first | with_reducible assumption | assumption) (by first | with_reducible assumption | assumption) (by first | exact Or.inl (by decide) | exact Or.inr (by decide)) (fun lo hi hb => ?_) ?_; (cases hb; refine And.intro ?_ ?_))
         | refine st_same ?_
         | (intro (r : Option PV) σ' hq
            first
            | (obtain ⟨rfl, x, rfl, hp⟩ := hq; (try replace hp : _ ∧ _ := hp); (try dsimp only at hp); (first | (have fl112 : FL _ 112 _ 144 := hp.1; have fl117 : FL _ 117 _ 12 := hp.2.1; have fl120 : FL _ 120 _ 36 := hp.2.2.1) | skip))
            | (obtain ⟨Z', (o : Nat), rfl, rfl, hI2, hk2, ⟨⟨hp, rfl⟩ | ⟨hp, rfl⟩, -⟩⟩ := hq <;> ((first | have hk3 := kp_to (by first | with_reducible assumption | assumption) (by rfl) hk2 | have hk3 := ks_to (by first | with_reducible assumption | assumption) (by rfl) hk2); (first | have e112 := (kp_av (o := 112) hk2 (by rfl) (by decide)).trans e112 | skip); (first | have e117 := (kp_av (o := 117) hk2 (by rfl) (by decide)).trans e117 | skip); (first | have e120 := (kp_av (o := 120) hk2 (by rfl) (by decide)).trans e120 | skip); (first | have fl112 := FL_o (kp_av (o := 112) hk2 (by rfl) (by decide)) fl112 | have fl112 := FL_o (ks_av (o := 112) hk2 (by rfl)) fl112 | skip); (first | have fl117 := FL_o (kp_av (o := 117) hk2 (by rfl) (by decide)) fl117 | have fl117 := FL_o (ks_av (o := 117) hk2 (by rfl)) fl117 | skip); (first | have fl120 := FL_o (kp_av (o := 120) hk2 (by rfl) (by decide)) fl120 | have fl120 := FL_o (ks_av (o := 120) hk2 (by rfl)) fl120 | skip); (first | have := kpF 100 0 hk2 (by rfl) | have := ksF 100 0 hk2 (by rfl) | skip); (try dsimp only at this); (first | have := kpF 100 1 hk2 (by rfl) | have := ksF 100 1 hk2 (by rfl) | skip); (try dsimp only at this); (first | have := kpF 100 30 hk2 (by rfl) | have := ksF 100 30 hk2 (by rfl) | skip); (try dsimp only at this); (first | have := kpF 100 19 hk2 (by rfl) | have := ksF 100 19 hk2 (by rfl) | skip); (try dsimp only at this); clear hk2))
            | (obtain ⟨Z', x, rfl, rfl, hI2, hk2, hp⟩ := hq; (try replace hp : _ ∧ _ := hp); (try dsimp only at hp); (first | have hk3 := kp_to (by first | with_reducible assumption | assumption) (by rfl) hk2 | have hk3 := ks_to (by first | with_reducible assumption | assumption) (by rfl) hk2); (first | have e112 := (kp_av (o := 112) hk2 (by rfl) (by decide)).trans e112 | skip); (first | have e117 := (kp_av (o := 117) hk2 (by rfl) (by decide)).trans e117 | skip); (first | have e120 := (kp_av (o := 120) hk2 (by rfl) (by decide)).trans e120 | skip); (first | have fl112 := FL_o (kp_av (o := 112) hk2 (by rfl) (by decide)) fl112 | have fl112 := FL_o (ks_av (o := 112) hk2 (by rfl)) fl112 | skip); (first | have fl117 := FL_o (kp_av (o := 117) hk2 (by rfl) (by decide)) fl117 | have fl117 := FL_o (ks_av (o := 117) hk2 (by rfl)) fl117 | skip); (first | have fl120 := FL_o (kp_av (o := 120) hk2 (by rfl) (by decide)) fl120 | have fl120 := FL_o (ks_av (o := 120) hk2 (by rfl)) fl120 | skip); (first | have := kpF 100 0 hk2 (by rfl) | have := ksF 100 0 hk2 (by rfl) | skip); (try dsimp only at this); (first | have := kpF 100 1 hk2 (by rfl) | have := ksF 100 1 hk2 (by rfl) | skip); (try dsimp only at this); (first | have := kpF 100 30 hk2 (by rfl) | have := ksF 100 30 hk2 (by rfl) | skip); (try dsimp only at this); (first | have := kpF 100 19 hk2 (by rfl) | have := ksF 100 19 hk2 (by rfl) | skip); (try dsimp only at this); clear hk2; (first | (have fl112 : FL _ 112 _ 144 := hp.1; have fl117 : FL _ 117 _ 12 := hp.2.1; have fl120 : FL _ 120 _ 36 := hp.2.2.1) | skip))
            | (obtain ⟨Z', rfl, rfl, hI2, hk2, hp⟩ := hq; (try replace hp : _ ∧ _ := hp); (try dsimp only at hp); (first | have hk3 := kp_to (by first | with_reducible assumption | assumption) (by rfl) hk2 | have hk3 := ks_to (by first | with_reducible assumption | assumption) (by rfl) hk2); (first | have e112 := (kp_av (o := 112) hk2 (by rfl) (by decide)).trans e112 | skip); (first | have e117 := (kp_av (o := 117) hk2 (by rfl) (by decide)).trans e117 | skip); (first | have e120 := (kp_av (o := 120) hk2 (by rfl) (by decide)).trans e120 | skip); (first | have fl112 := FL_o (kp_av (o := 112) hk2 (by rfl) (by decide)) fl112 | have fl112 := FL_o (ks_av (o := 112) hk2 (by rfl)) fl112 | skip); (first | have fl117 := FL_o (kp_av (o := 117) hk2 (by rfl) (by decide)) fl117 | have fl117 := FL_o (ks_av (o := 117) hk2 (by rfl)) fl117 | skip); (first | have fl120 := FL_o (kp_av (o := 120) hk2 (by rfl) (by decide)) fl120 | have fl120 := FL_o (ks_av (o := 120) hk2 (by rfl)) fl120 | skip); (first | have := kpF 100 0 hk2 (by rfl) | have := ksF 100 0 hk2 (by rfl) | skip); (try dsimp only at this); (first | have := kpF 100 1 hk2 (by rfl) | have := ksF 100 1 hk2 (by rfl) | skip); (try dsimp only at this); (first | have := kpF 100 30 hk2 (by rfl) | have := ksF 100 30 hk2 (by rfl) | skip); (try dsimp only at this); (first | have := kpF 100 19 hk2 (by rfl) | have := ksF 100 19 hk2 (by rfl) | skip); (try dsimp only at this); clear hk2; (first | (have fl112 : FL _ 112 _ 144 := hp.1; have fl117 : FL _ 117 _ 12 := hp.2.1; have fl120 : FL _ 120 _ 36 := hp.2.2.1) | skip))
            | (obtain ⟨rfl, rfl⟩ := hq)
            | (obtain ⟨Z', x, rfl, rfl, hI2, hk2⟩ := hq; have hkn := keeps_nil hk2; clear hk2; subst hkn)
            | (obtain ⟨Z', x, rfl, rfl, hI2, hk2⟩ := hq; (first | have hk3 := kp_to (by first | with_reducible assumption | assumption) (by rfl) hk2 | have hk3 := ks_to (by first | with_reducible assumption | assumption) (by rfl) hk2); (first | have e112 := (kp_av (o := 112) hk2 (by rfl) (by decide)).trans e112 | skip); (first | have e117 := (kp_av (o := 117) hk2 (by rfl) (by decide)).trans e117 | skip); (first | have e120 := (kp_av (o := 120) hk2 (by rfl) (by decide)).trans e120 | skip); (first | have fl112 := FL_o (kp_av (o := 112) hk2 (by rfl) (by decide)) fl112 | have fl112 := FL_o (ks_av (o := 112) hk2 (by rfl)) fl112 | skip); (first | have fl117 := FL_o (kp_av (o := 117) hk2 (by rfl) (by decide)) fl117 | have fl117 := FL_o (ks_av (o := 117) hk2 (by rfl)) fl117 | skip); (first | have fl120 := FL_o (kp_av (o := 120) hk2 (by rfl) (by decide)) fl120 | have fl120 := FL_o (ks_av (o := 120) hk2 (by rfl)) fl120 | skip); (first | have := kpF 100 0 hk2 (by rfl) | have := ksF 100 0 hk2 (by rfl) | skip); (try dsimp only at this); (first | have := kpF 100 1 hk2 (by rfl) | have := ksF 100 1 hk2 (by rfl) | skip); (try dsimp only at this); (first | have := kpF 100 30 hk2 (by rfl) | have := ksF 100 30 hk2 (by rfl) | skip); (try dsimp only at this); (first | have := kpF 100 19 hk2 (by rfl) | have := ksF 100 19 hk2 (by rfl) | skip); (try dsimp only at this); clear hk2)
            | (rcases hq with ⟨Z', rfl, rfl, hI2, hk2⟩ | ⟨Z', rfl, rfl, hI2, hk2⟩ <;> ((first | have hk3 := kp_to (by first | with_reducible assumption | assumption) (by rfl) hk2 | have hk3 := ks_to (by first | with_reducible assumption | assumption) (by rfl) hk2); (first | have e112 := (kp_av (o := 112) hk2 (by rfl) (by decide)).trans e112 | skip); (first | have e117 := (kp_av (o := 117) hk2 (by rfl) (by decide)).trans e117 | skip); (first | have e120 := (kp_av (o := 120) hk2 (by rfl) (by decide)).trans e120 | skip); (first | have fl112 := FL_o (kp_av (o := 112) hk2 (by rfl) (by decide)) fl112 | have fl112 := FL_o (ks_av (o := 112) hk2 (by rfl)) fl112 | skip); (first | have fl117 := FL_o (kp_av (o := 117) hk2 (by rfl) (by decide)) fl117 | have fl117 := FL_o (ks_av (o := 117) hk2 (by rfl)) fl117 | skip); (first | have fl120 := FL_o (kp_av (o := 120) hk2 (by rfl) (by decide)) fl120 | have fl120 := FL_o (ks_av (o := 120) hk2 (by rfl)) fl120 | skip); (first | have := kpF 100 0 hk2 (by rfl) | have := ksF 100 0 hk2 (by rfl) | skip); (try dsimp only at this); (first | have := kpF 100 1 hk2 (by rfl) | have := ksF 100 1 hk2 (by rfl) | skip); (try dsimp only at this); (first | have := kpF 100 30 hk2 (by rfl) | have := ksF 100 30 hk2 (by rfl) | skip); (try dsimp only at this); (first | have := kpF 100 19 hk2 (by rfl) | have := ksF 100 19 hk2 (by rfl) | skip); (try dsimp only at this); clear hk2))
            | (obtain ⟨Z', rfl, rfl, hI2, hk2⟩ := hq; (first | have hk3 := kp_to (by first | with_reducible assumption | assumption) (by rfl) hk2 | have hk3 := ks_to (by first | with_reducible assumption | assumption) (by rfl) hk2); (first | have e112 := (kp_av (o := 112) hk2 (by rfl) (by decide)).trans e112 | skip); (first | have e117 := (kp_av (o := 117) hk2 (by rfl) (by decide)).trans e117 | skip); (first | have e120 := (kp_av (o := 120) hk2 (by rfl) (by decide)).trans e120 | skip); (first | have fl112 := FL_o (kp_av (o := 112) hk2 (by rfl) (by decide)) fl112 | have fl112 := FL_o (ks_av (o := 112) hk2 (by rfl)) fl112 | skip); (first | have fl117 := FL_o (kp_av (o := 117) hk2 (by rfl) (by decide)) fl117 | have fl117 := FL_o (ks_av (o := 117) hk2 (by rfl)) fl117 | skip); (first | have fl120 := FL_o (kp_av (o := 120) hk2 (by rfl) (by decide)) fl120 | have fl120 := FL_o (ks_av (o := 120) hk2 (by rfl)) fl120 | skip); (first | have := kpF 100 0 hk2 (by rfl) | have := ksF 100 0 hk2 (by rfl) | skip); (try dsimp only at this); (first | have := kpF 100 1 hk2 (by rfl) | have := ksF 100 1 hk2 (by rfl) | skip); (try dsimp only at this); (first | have := kpF 100 30 hk2 (by rfl) | have := ksF 100 30 hk2 (by rfl) | skip); (try dsimp only at this); (first | have := kpF 100 19 hk2 (by rfl) | have := ksF 100 19 hk2 (by rfl) | skip); (try dsimp only at this); clear hk2))
         | (intro hc; (try simp only [cmp3_c] at hc); simp only [cmpI] at hc)
         | (show CI _; assumption)
         | intro (_ : Int)
         | intro (Z' : ZT)
         | intro (_ : CI _)
         | (intro (hkk : kp _ _ _))
         | intro (_ : _ ≤ _)
         | (intro (hup : _ = upZ _ _ _ _); (try dsimp only at hup); (first | have := (congrFun (congrFun hup 100) 0).trans (up_ne (by decide)) | have := (congrFun (congrFun hup 100) 0).trans (up_nk (o := 100) (by decide)) | skip); (first | have := (congrFun (congrFun hup 100) 1).trans (up_ne (by decide)) | have := (congrFun (congrFun hup 100) 1).trans (up_nk (o := 100) (by decide)) | skip); (first | have := (congrFun (congrFun hup 100) 30).trans (up_ne (by decide)) | have := (congrFun (congrFun hup 100) 30).trans (up_nk (o := 100) (by decide)) | skip); (first | have := (congrFun (congrFun hup 100) 19).trans (up_ne (by decide)) | have := (congrFun (congrFun hup 100) 19).trans (up_nk (o := 100) (by decide)) | skip); (first | have fl112 := FL_up hup fl112 (by first | rfl | omega) (by omega) | have fl112 := FL_o (up_o hup (by decide)) fl112 | skip); (first | have fl117 := FL_up hup fl117 (by first | rfl | omega) (by omega) | have fl117 := FL_o (up_o hup (by decide)) fl117 | skip); (first | have fl120 := FL_up hup fl120 (by first | rfl | omega) (by omega) | have fl120 := FL_o (up_o hup (by decide)) fl120 | skip); (try have e112 := (up_o hup (by decide)).trans e112); (try have e117 := (up_o hup (by decide)).trans e117); (try have e120 := (up_o hup (by decide)).trans e120))
         | (intro (hld : _ = _); (try dsimp only at hld); (try simp only [Nat.reduceAdd] at hld))
         | intro (_ : _ < _)
         | intro (_ : _ ≠ _)
         | intro (_ : _ ∨ _)))
  all_goals first
    | with_reducible rfl
    | ((with_reducible show _ = _); rfl)
    | ((with_reducible show recvG _ _); rfl)
    | with_reducible exact trivial
    | with_reducible assumption
    | ((fail_if_success (first | (with_reducible show _ ≤ _) | (with_reducible show _ = _) | (with_reducible show _ ∨ _) | (with_reducible show _ < _) | (with_reducible show G _ _ _ _))); (refine Exists.intro _ (Exists.intro _ (And.intro rfl (And.intro rfl ?_))); refine ⟨by assumption, by assumption, ?_⟩; (refine ⟨?_, ?_, trivial⟩; (first | done | focus (first | (dsimp only; done) | ((try dsimp only); ((first | (refine Or.inl ⟨?_, ?_, ?_, ?_, ?_⟩ <;> first | assumption | exact ⟨by assumption, by assumption⟩ | omega) | (refine Or.inr ⟨?_, ?_, ?_, ?_, ?_⟩ <;> first | assumption | exact ⟨by assumption, by assumption⟩ | omega | (rename_i hp; rw [hp.1]; congr 1 <;> omega)) | fail))))); (first | done | focus (first | (dsimp only; done) | ((try dsimp only); (first | omega | with_reducible assumption | with_reducible rfl | (first | omega | ((try dsimp only); (first | omega | (simp (disch := omega) only [w32_id, w64_id]; omega) | (simp only [w32, w64]; omega) | (with_reducible refine (and32_le ?_ ?_).1 <;> omega) | (with_reducible refine (and32_le ?_ ?_).2 <;> omega) | (with_reducible refine (mulR ?_ ?_ ?_ ?_).1 <;> omega) | (with_reducible refine (mulR ?_ ?_ ?_ ?_).2 <;> omega) | (simp only [w32, w64] at *; omega) | (simp (disch := omega) only [w32_id, w64_id] at *; omega) | (simp (disch := omega) only [tdiv_nn, tmod_nn, w32_id, w64_id] at *; omega) | (subst_vars; simp [upZ] at *; omega) | (subst_vars; simp [upZ] at *; simp only [w32, w64] at *; omega))) | fail) | fail)))))))
    | ((fail_if_success (first | (with_reducible show _ ≤ _) | (with_reducible show _ = _) | (with_reducible show _ ∨ _) | (with_reducible show _ < _) | (with_reducible show G _ _ _ _))); (refine Exists.intro _ (Exists.intro _ (And.intro rfl (And.intro rfl ?_))); refine ⟨by assumption, by assumption, ?_⟩; simp only [Nat.reduceAdd] at *; (refine ⟨?_, ?_, trivial⟩; (first | done | focus (first | (dsimp only; done) | ((try dsimp only); ((first | (refine Or.inl ⟨?_, ?_, ?_, ?_, ?_⟩ <;> first | assumption | exact ⟨by assumption, by assumption⟩ | omega) | (refine Or.inr ⟨?_, ?_, ?_, ?_, ?_⟩ <;> first | assumption | exact ⟨by assumption, by assumption⟩ | omega | (rename_i hp; rw [hp.1]; congr 1 <;> omega)) | fail))))); (first | done | focus (first | (dsimp only; done) | ((try dsimp only); (first | omega | with_reducible assumption | with_reducible rfl | (first | omega | ((try dsimp only); (first | omega | (simp (disch := omega) only [w32_id, w64_id]; omega) | (simp only [w32, w64]; omega) | (with_reducible refine (and32_le ?_ ?_).1 <;> omega) | (with_reducible refine (and32_le ?_ ?_).2 <;> omega) | (with_reducible refine (mulR ?_ ?_ ?_ ?_).1 <;> omega) | (with_reducible refine (mulR ?_ ?_ ?_ ?_).2 <;> omega) | (simp only [w32, w64] at *; omega) | (simp (disch := omega) only [w32_id, w64_id] at *; omega) | (simp (disch := omega) only [tdiv_nn, tmod_nn, w32_id, w64_id] at *; omega) | (subst_vars; simp [upZ] at *; omega) | (subst_vars; simp [upZ] at *; simp only [w32, w64] at *; omega))) | fail) | fail)))))))
    | omega
    | (dsimp only; omega)
    | decide
    | (show (0 : Int) < _; omega)
    | (show (0 : Int) < _; simp only [w64] at *; omega)
    | (simp only [w32, w64] at *; omega)
    | (first | omega | ((try dsimp only); (first | omega | (simp (disch := omega) only [w32_id, w64_id]; omega) | (simp only [w32, w64]; omega) | (with_reducible refine (and32_le ?_ ?_).1 <;> omega) | (with_reducible refine (and32_le ?_ ?_).2 <;> omega) | (with_reducible refine (mulR ?_ ?_ ?_ ?_).1 <;> omega) | (with_reducible refine (mulR ?_ ?_ ?_ ?_).2 <;> omega) | (simp only [w32, w64] at *; omega) | (simp (disch := omega) only [w32_id, w64_id] at *; omega) | (simp (disch := omega) only [tdiv_nn, tmod_nn, w32_id, w64_id] at *; omega) | (subst_vars; simp [upZ] at *; omega) | (subst_vars; simp [upZ] at *; simp only [w32, w64] at *; omega))) | fail)
    | ((with_reducible show swT _ _ _ _); exact trivial)
    | rfl
    | skip
def s_X11_ruleX : Sp := rRI 3 11 (fun as Z => match as with
    | [.inr (.inr a0), .inl a1, .inl a2] => ((a0 = 100)) ∧ (True) ∧ (True) ∧ True
    | _ => False) (fun as => match as with
    | [.inr (.inr a0), .inl a1, .inl a2] => [3100, 4100]
    | _ => []) (fun as Z (x : Int) Z' => match as with
    | [.inr (.inr a0), .inl a1, .inl a2] => (x = -1 ∧ ¬(a1 = 0 ∧ 0 ≤ a2 ∧ a2 ≤ 2) ∧ ¬(a1 = 1 ∧ 0 ≤ a2 ∧ a2 ≤ 9) ∧ Z' 100 2 = Z 100 2 ∧ Z' 100 3 = Z 100 3 ∨ x = Z 100 2 ∧ (a1 = 0 ∧ 0 ≤ a2 ∧ a2 ≤ 2) ∧ Z' 100 2 = a2 ∧ Z' 100 3 = Z 100 3 ∨ x = Z 100 3 ∧ (a1 = 1 ∧ 0 ≤ a2 ∧ a2 ≤ 9) ∧ Z' 100 2 = Z 100 2 ∧ Z' 100 3 = a2) ∧ True
    | _ => False)
set_option maxRecDepth 100000 in
set_option maxHeartbeats 40000000 in
theorem c_X11_ruleX {l : Launch} {D : va_G} {cA : Nat → ClassId} : PM l D cA yX11_rule cX11_rule 4 (some .int) 1 25 s_X11_ruleX := by
  refine of_X11_rule (c_X11_in) ⟨rfl, rfl⟩ (fun as σ hwf hao hpre => ?_)
  obtain ⟨n, Z, R⟩ := σ
  obtain ⟨hR, hI, hpre⟩ := hpre
  obtain rfl : R = R0 := hR
  (try replace hI : CI Z := hI)
  rcases as with _ | ⟨x | x | a0, _ | ⟨a1 | x | x, _ | ⟨a2 | x | x, _ | ⟨v, t⟩⟩⟩⟩ <;> first | exact (hpre : False).elim | skip
  obtain ⟨k1l, k1u⟩ : okI a1 := hao (vi a1) (by simp)
  obtain ⟨k2l, k2u⟩ : okI a2 := hao (vi a2) (by simp)
  obtain ⟨h0, h1, h2, -⟩ := hpre
  have hk : kp ([3100, 4100]) Z Z := kp_refl
  refine ⟨Nat.le_of_ble_eq_true rfl, fun G hG => ?_⟩
  clear hao hwf
  obtain rfl := h0
  refine wq_run hG n R0 [] 900 _ _ _ _ ?_
  repeat' (first
      | with_reducible rfl
      | refine And.intro ?_ ?_
      | with_reducible exact True.intro
      | ((with_reducible show _ = true); rfl)
      | ((with_reducible show recvG _ _); rfl)
      | ((with_reducible show CI _); first | with_reducible assumption | assumption)
      | (fail_if_success (first | (with_reducible show _ ≤ _) | (with_reducible show _ = _) | (with_reducible show _ ∨ _) | (with_reducible show _ < _) | (with_reducible show G _ _ _ _))
         first
         | show G _ _ _ _
         | (refine ld_bnd (by first | with_reducible assumption | assumption) rfl ?_; intro _ _ _ hld; (try dsimp only at hld); (try simp only [Nat.reduceAdd] at hld))
         | (refine st_k (by first | with_reducible assumption | assumption) (by first | with_reducible assumption | assumption) (by first | exact Or.inl (by decide) | exact Or.inr (by decide)) (fun lo hi hb => by first | (cases hb; done) | (cases hb; constructor <;> (first | omega | ((try dsimp only); (first | omega | (simp (disch := omega) only [w32_id, w64_id]; omega) | (simp only [w32, w64]; omega) | (with_reducible refine (and32_le ?_ ?_).1 <;> omega) | (with_reducible refine (and32_le ?_ ?_).2 <;> omega) | (with_reducible refine (mulR ?_ ?_ ?_ ?_).1 <;> omega) | (with_reducible refine (mulR ?_ ?_ ?_ ?_).2 <;> omega) | (simp only [w32, w64] at *; omega) | (simp (disch := omega) only [w32_id, w64_id] at *; omega) | (simp (disch := omega) only [tdiv_nn, tmod_nn, w32_id, w64_id] at *; omega) | (subst_vars; simp [upZ] at *; omega) | (subst_vars; simp [upZ] at *; simp only [w32, w64] at *; omega))) | fail))) ?_; intro Z' _ hkk; intro hld; (try dsimp only at hld); (try simp only [Nat.reduceAdd] at hld); intro hup; (try dsimp only at hup); (first | have := (congrFun (congrFun hup 100) 2).trans (up_ne (by decide)) | have := (congrFun (congrFun hup 100) 2).trans (up_nk (o := 100) (by decide)) | skip); (first | have := (congrFun (congrFun hup 100) 3).trans (up_ne (by decide)) | have := (congrFun (congrFun hup 100) 3).trans (up_nk (o := 100) (by decide)) | skip))
         | (refine st_k (by first | with_reducible assumption | assumption) (by first | with_reducible assumption | assumption) (by first | exact Or.inl (by decide) | exact Or.inr (by decide)) (fun lo hi hb => ?_) ?_; (cases hb; refine And.intro ?_ ?_))
         | refine st_same ?_
         | (intro (r : Option PV) σ' hq
            first
            | (obtain ⟨rfl, x, rfl, hp⟩ := hq; (try replace hp : _ ∧ _ := hp); (try dsimp only at hp))
            | (obtain ⟨Z', (o : Nat), rfl, rfl, hI2, hk2, ⟨⟨hp, rfl⟩ | ⟨hp, rfl⟩, -⟩⟩ := hq <;> ((first | have hk3 := kp_to (by first | with_reducible assumption | assumption) (by rfl) hk2 | have hk3 := ks_to (by first | with_reducible assumption | assumption) (by rfl) hk2); clear hk2))
            | (obtain ⟨Z', x, rfl, rfl, hI2, hk2, hp⟩ := hq; (try replace hp : _ ∧ _ := hp); (try dsimp only at hp); (first | have hk3 := kp_to (by first | with_reducible assumption | assumption) (by rfl) hk2 | have hk3 := ks_to (by first | with_reducible assumption | assumption) (by rfl) hk2); clear hk2)
            | (obtain ⟨Z', rfl, rfl, hI2, hk2, hp⟩ := hq; (try replace hp : _ ∧ _ := hp); (try dsimp only at hp); (first | have hk3 := kp_to (by first | with_reducible assumption | assumption) (by rfl) hk2 | have hk3 := ks_to (by first | with_reducible assumption | assumption) (by rfl) hk2); clear hk2)
            | (obtain ⟨rfl, rfl⟩ := hq)
            | (obtain ⟨Z', x, rfl, rfl, hI2, hk2⟩ := hq; have hkn := keeps_nil hk2; clear hk2; subst hkn)
            | (obtain ⟨Z', x, rfl, rfl, hI2, hk2⟩ := hq; (first | have hk3 := kp_to (by first | with_reducible assumption | assumption) (by rfl) hk2 | have hk3 := ks_to (by first | with_reducible assumption | assumption) (by rfl) hk2); clear hk2)
            | (rcases hq with ⟨Z', rfl, rfl, hI2, hk2⟩ | ⟨Z', rfl, rfl, hI2, hk2⟩ <;> ((first | have hk3 := kp_to (by first | with_reducible assumption | assumption) (by rfl) hk2 | have hk3 := ks_to (by first | with_reducible assumption | assumption) (by rfl) hk2); clear hk2))
            | (obtain ⟨Z', rfl, rfl, hI2, hk2⟩ := hq; (first | have hk3 := kp_to (by first | with_reducible assumption | assumption) (by rfl) hk2 | have hk3 := ks_to (by first | with_reducible assumption | assumption) (by rfl) hk2); clear hk2))
         | (intro hc; (try simp only [cmp3_c] at hc); simp only [cmpI] at hc)
         | (show CI _; assumption)
         | intro (_ : Int)
         | intro (Z' : ZT)
         | intro (_ : CI _)
         | (intro (hkk : kp _ _ _))
         | intro (_ : _ ≤ _)
         | (intro (hup : _ = upZ _ _ _ _); (try dsimp only at hup); (first | have := (congrFun (congrFun hup 100) 2).trans (up_ne (by decide)) | have := (congrFun (congrFun hup 100) 2).trans (up_nk (o := 100) (by decide)) | skip); (first | have := (congrFun (congrFun hup 100) 3).trans (up_ne (by decide)) | have := (congrFun (congrFun hup 100) 3).trans (up_nk (o := 100) (by decide)) | skip))
         | (intro (hld : _ = _); (try dsimp only at hld); (try simp only [Nat.reduceAdd] at hld))
         | intro (_ : _ < _)
         | intro (_ : _ ≠ _)
         | intro (_ : _ ∨ _)))
  all_goals first
    | with_reducible rfl
    | ((with_reducible show _ = _); rfl)
    | ((with_reducible show recvG _ _); rfl)
    | with_reducible exact trivial
    | with_reducible assumption
    | ((fail_if_success (first | (with_reducible show _ ≤ _) | (with_reducible show _ = _) | (with_reducible show _ ∨ _) | (with_reducible show _ < _) | (with_reducible show G _ _ _ _))); (refine Exists.intro _ (Exists.intro _ (And.intro rfl (And.intro rfl ?_))); refine ⟨by assumption, by assumption, ?_⟩; (refine ⟨?_, trivial⟩; (first | done | focus (first | (dsimp only; done) | ((try dsimp only); (first | omega | with_reducible assumption | with_reducible rfl | (first | omega | ((try dsimp only); (first | omega | (simp (disch := omega) only [w32_id, w64_id]; omega) | (simp only [w32, w64]; omega) | (with_reducible refine (and32_le ?_ ?_).1 <;> omega) | (with_reducible refine (and32_le ?_ ?_).2 <;> omega) | (with_reducible refine (mulR ?_ ?_ ?_ ?_).1 <;> omega) | (with_reducible refine (mulR ?_ ?_ ?_ ?_).2 <;> omega) | (simp only [w32, w64] at *; omega) | (simp (disch := omega) only [w32_id, w64_id] at *; omega) | (simp (disch := omega) only [tdiv_nn, tmod_nn, w32_id, w64_id] at *; omega) | (subst_vars; simp [upZ] at *; omega) | (subst_vars; simp [upZ] at *; simp only [w32, w64] at *; omega))) | fail) | fail)))))))
    | ((fail_if_success (first | (with_reducible show _ ≤ _) | (with_reducible show _ = _) | (with_reducible show _ ∨ _) | (with_reducible show _ < _) | (with_reducible show G _ _ _ _))); (refine Exists.intro _ (Exists.intro _ (And.intro rfl (And.intro rfl ?_))); refine ⟨by assumption, by assumption, ?_⟩; simp only [Nat.reduceAdd] at *; (refine ⟨?_, trivial⟩; (first | done | focus (first | (dsimp only; done) | ((try dsimp only); (first | omega | with_reducible assumption | with_reducible rfl | (first | omega | ((try dsimp only); (first | omega | (simp (disch := omega) only [w32_id, w64_id]; omega) | (simp only [w32, w64]; omega) | (with_reducible refine (and32_le ?_ ?_).1 <;> omega) | (with_reducible refine (and32_le ?_ ?_).2 <;> omega) | (with_reducible refine (mulR ?_ ?_ ?_ ?_).1 <;> omega) | (with_reducible refine (mulR ?_ ?_ ?_ ?_).2 <;> omega) | (simp only [w32, w64] at *; omega) | (simp (disch := omega) only [w32_id, w64_id] at *; omega) | (simp (disch := omega) only [tdiv_nn, tmod_nn, w32_id, w64_id] at *; omega) | (subst_vars; simp [upZ] at *; omega) | (subst_vars; simp [upZ] at *; simp only [w32, w64] at *; omega))) | fail) | fail)))))))
    | omega
    | (dsimp only; omega)
    | decide
    | (show (0 : Int) < _; omega)
    | (show (0 : Int) < _; simp only [w64] at *; omega)
    | (simp only [w32, w64] at *; omega)
    | (first | omega | ((try dsimp only); (first | omega | (simp (disch := omega) only [w32_id, w64_id]; omega) | (simp only [w32, w64]; omega) | (with_reducible refine (and32_le ?_ ?_).1 <;> omega) | (with_reducible refine (and32_le ?_ ?_).2 <;> omega) | (with_reducible refine (mulR ?_ ?_ ?_ ?_).1 <;> omega) | (with_reducible refine (mulR ?_ ?_ ?_ ?_).2 <;> omega) | (simp only [w32, w64] at *; omega) | (simp (disch := omega) only [w32_id, w64_id] at *; omega) | (simp (disch := omega) only [tdiv_nn, tmod_nn, w32_id, w64_id] at *; omega) | (subst_vars; simp [upZ] at *; omega) | (subst_vars; simp [upZ] at *; simp only [w32, w64] at *; omega))) | fail)
    | ((with_reducible show swT _ _ _ _); exact trivial)
    | rfl
    | skip
