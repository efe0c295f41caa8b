/-! ===== the model's times, exactly ===== -/
def s_X11_ownEndsX : Sp := rRV 1 11 (fun as Z => match as with
    | [.inr (.inr a0)] => ((a0 = 100)) ∧ (EB Z) ∧ True
    | _ => False) (fun as => match as with
    | [.inr (.inr a0)] => [128, 129, 130, 36100, 37100]
    | _ => []) (fun as Z Z' => match as with
    | [.inr (.inr a0)] => (EB Z') ∧ (AG (Z' 128) (tsS (envM Z) (Z 100 0 * Z 100 1).toNat 12).1 (Z 100 0 * Z 100 1).toNat 12 0) ∧ True
    | _ => False)
set_option maxRecDepth 100000 in
set_option maxHeartbeats 40000000 in
theorem c_X11_ownEndsX {l : Launch} {D : va_G} {cA : Nat → ClassId} : PM l D cA yX11_ownEnds cX11_ownEnds 2 none 3 77 s_X11_ownEndsX := by
  refine of_X11_ownEnds (c_X11_endsX) ⟨rfl, rfl⟩ (fun as σ hwf hao hpre => ?_)
  obtain ⟨n, Z, R⟩ := σ
  obtain ⟨hR, hI, hpre⟩ := hpre
  obtain rfl : R = R0 := hR
  (try replace hI : CI Z := hI)
  rcases as with _ | ⟨x | x | a0, _ | ⟨v, t⟩⟩ <;> first | exact (hpre : False).elim | skip
  obtain ⟨h0, q0, -⟩ := hpre
  have hk : kp ([128, 129, 130, 36100, 37100]) Z Z := kp_refl
  refine ⟨Nat.le_of_ble_eq_true rfl, fun G hG => ?_⟩
  clear hao hwf
  (try dsimp only at q0)
  obtain rfl := h0
  have loop : ∀ fuel : Nat, (∀ (Z1 : ZT) (v1 : Int), CI Z1 → kp ([128, 129, 130, 36100, 37100]) Z Z1 → ((0 ≤ v1 ∧ v1 ≤ 36) ∧ (EB Z1) ∧ (CY Z1 Z 129 120 v1) ∧ (FL Z1 128 0 v1) ∧ True) → 37 - v1 ≤ (fuel : Int) → G 2 [(0, vr 100), (1, vi v1)] [] (n, Z1, R0)) := by
    intro fuel
    induction fuel with
    | zero => exact (by intros; omega)
    | succ fuel ih =>
      have ih2 := ih
      · intro Z1 v1 hI1 hk1 hv hm
        obtain ⟨w0, w1, w2, w3, -⟩ := hv
        clear hk hI
        have cy129 := w2
        have fl128 := w3
        have e120 : Z1 120 = Z 120 := kp_av (o := 120) hk1 (by rfl) (by decide)
        have g0 : Z1 100 0 = Z 100 0 := kpF 100 0 hk1 (by rfl)
        have g1 : Z1 100 1 = Z 100 1 := kpF 100 1 hk1 (by rfl)
        have g2 : Z1 100 2 = Z 100 2 := kpF 100 2 hk1 (by rfl)
        have g3 : Z1 100 3 = Z 100 3 := kpF 100 3 hk1 (by rfl)
        have g119 : Z1 119 = Z 119 := kp_av (o := 119) hk1 (by rfl) (by decide)
        refine wq_run hG n R0 [2] 900 _ _ _ _ ?_
        repeat' (first
            | with_reducible rfl
            | refine And.intro ?_ ?_
            | with_reducible exact True.intro
            | ((with_reducible show _ = true); rfl)
            | ((with_reducible show recvG _ _); rfl)
            | ((with_reducible show CI _); first | with_reducible assumption | assumption)
            | (fail_if_success (first | (with_reducible show _ ≤ _) | (with_reducible show _ = _) | (with_reducible show _ ∨ _) | (with_reducible show _ < _))
               first
               | (refine ld_bnd (by first | with_reducible assumption | assumption) rfl ?_; intro _ _ _ hld; (try dsimp only at hld); (try simp only [Nat.reduceAdd] at hld); (try have qcy129 := hld.trans (congrFun e120 _)))
               | (refine st_k (by first | with_reducible assumption | assumption) (by first | with_reducible assumption | assumption) (by first | exact Or.inl (by decide) | exact Or.inr (by decide)) (fun lo hi hb => by first | (cases hb; done) | (cases hb; constructor <;> (first | omega | ((try dsimp only); (first | omega | (simp (disch := omega) only [w32_id, w64_id]; omega) | (simp only [w32, w64]; omega) | (with_reducible refine (and32_le ?_ ?_).1 <;> omega) | (with_reducible refine (and32_le ?_ ?_).2 <;> omega) | (with_reducible refine (mulR ?_ ?_ ?_ ?_).1 <;> omega) | (with_reducible refine (mulR ?_ ?_ ?_ ?_).2 <;> omega) | (simp only [w32, w64] at *; omega) | (simp (disch := omega) only [w32_id, w64_id] at *; omega) | (simp (disch := omega) only [tdiv_nn, tmod_nn, w32_id, w64_id] at *; omega) | (subst_vars; simp [upZ] at *; omega) | (subst_vars; simp [upZ] at *; simp only [w32, w64] at *; omega))) | fail))) ?_; intro Z' _ hkk; intro hld; (try dsimp only at hld); (try simp only [Nat.reduceAdd] at hld); (try have qcy129 := hld.trans (congrFun e120 _)); intro hup; (try dsimp only at hup); (first | have fl128 := FL_up hup fl128 (by first | rfl | omega) (by omega) | have fl128 := FL_o (up_o hup (by decide)) fl128 | skip); (first | have cy129 := CY_up hup cy129 qcy129 (by omega) | have cy129 := CY_o (up_o hup (by decide)) cy129 | skip); (first | have hEB := EB_o (up_o hup (by decide)) (by assumption) | have hEB := EB_up (s := 0) hup (by assumption) (by first | omega | (simp (disch := omega) only [w32_id]; first | done | omega)) (by first | omega | (simp (disch := omega) only [w32_id]; first | done | omega)) (by omega) (by first | omega | (simp (disch := omega) only [w32_id]; first | done | omega)) | skip); (try have hFB := FB_o (up_o hup (by decide)) (by assumption)))
               | (refine st_k (by first | with_reducible assumption | assumption) (by first | with_reducible assumption | assumption) (by first | exact Or.inl (by decide) | exact Or.inr (by decide)) (fun lo hi hb => ?_) ?_; (cases hb; refine And.intro ?_ ?_))
               | refine st_same ?_
               | (intro (r : Option PV) σ' hq
                  first
                  | (obtain ⟨rfl, x, rfl, hp⟩ := hq; (try replace hp : _ ∧ _ := hp); (try dsimp only at hp); (try (obtain ⟨hEB, hag, -⟩ := hp; replace hEB : EB _ := hEB)))
                  | (obtain ⟨Z', (o : Nat), rfl, rfl, hI2, hk2, ⟨⟨hp, rfl⟩ | ⟨hp, rfl⟩, -⟩⟩ := hq <;> ((first | have hk3 := kp_to (by first | with_reducible assumption | assumption) (by rfl) hk2 | have hk3 := ks_to (by first | with_reducible assumption | assumption) (by rfl) hk2); (first | have fl128 := FL_o (kp_av (o := 128) hk2 (by rfl) (by decide)) fl128 | have fl128 := FL_o (ks_av (o := 128) hk2 (by rfl)) fl128 | skip); (first | have cy129 := CY_o (kp_av (o := 129) hk2 (by rfl) (by decide)) cy129 | have cy129 := CY_o (ks_av (o := 129) hk2 (by rfl)) cy129 | skip); clear hk2))
                  | (obtain ⟨Z', x, rfl, rfl, hI2, hk2, hp⟩ := hq; (try replace hp : _ ∧ _ := hp); (try dsimp only at hp); (first | have hk3 := kp_to (by first | with_reducible assumption | assumption) (by rfl) hk2 | have hk3 := ks_to (by first | with_reducible assumption | assumption) (by rfl) hk2); (first | have fl128 := FL_o (kp_av (o := 128) hk2 (by rfl) (by decide)) fl128 | have fl128 := FL_o (ks_av (o := 128) hk2 (by rfl)) fl128 | skip); (first | have cy129 := CY_o (kp_av (o := 129) hk2 (by rfl) (by decide)) cy129 | have cy129 := CY_o (ks_av (o := 129) hk2 (by rfl)) cy129 | skip); clear hk2; (try (obtain ⟨hEB, hag, -⟩ := hp; replace hEB : EB _ := hEB)))
                  | (obtain ⟨Z', rfl, rfl, hI2, hk2, hp⟩ := hq; (try replace hp : _ ∧ _ := hp); (try dsimp only at hp); (first | have hk3 := kp_to (by first | with_reducible assumption | assumption) (by rfl) hk2 | have hk3 := ks_to (by first | with_reducible assumption | assumption) (by rfl) hk2); (first | have fl128 := FL_o (kp_av (o := 128) hk2 (by rfl) (by decide)) fl128 | have fl128 := FL_o (ks_av (o := 128) hk2 (by rfl)) fl128 | skip); (first | have cy129 := CY_o (kp_av (o := 129) hk2 (by rfl) (by decide)) cy129 | have cy129 := CY_o (ks_av (o := 129) hk2 (by rfl)) cy129 | skip); clear hk2; (try (obtain ⟨hEB, hag, -⟩ := hp; replace hEB : EB _ := hEB)))
                  | (obtain ⟨rfl, rfl⟩ := hq)
                  | (obtain ⟨Z', x, rfl, rfl, hI2, hk2⟩ := hq; have hkn := keeps_nil hk2; clear hk2; subst hkn)
                  | (obtain ⟨Z', x, rfl, rfl, hI2, hk2⟩ := hq; (first | have hk3 := kp_to (by first | with_reducible assumption | assumption) (by rfl) hk2 | have hk3 := ks_to (by first | with_reducible assumption | assumption) (by rfl) hk2); (first | have fl128 := FL_o (kp_av (o := 128) hk2 (by rfl) (by decide)) fl128 | have fl128 := FL_o (ks_av (o := 128) hk2 (by rfl)) fl128 | skip); (first | have cy129 := CY_o (kp_av (o := 129) hk2 (by rfl) (by decide)) cy129 | have cy129 := CY_o (ks_av (o := 129) hk2 (by rfl)) cy129 | skip); clear hk2)
                  | (rcases hq with ⟨Z', rfl, rfl, hI2, hk2⟩ | ⟨Z', rfl, rfl, hI2, hk2⟩ <;> ((first | have hk3 := kp_to (by first | with_reducible assumption | assumption) (by rfl) hk2 | have hk3 := ks_to (by first | with_reducible assumption | assumption) (by rfl) hk2); (first | have fl128 := FL_o (kp_av (o := 128) hk2 (by rfl) (by decide)) fl128 | have fl128 := FL_o (ks_av (o := 128) hk2 (by rfl)) fl128 | skip); (first | have cy129 := CY_o (kp_av (o := 129) hk2 (by rfl) (by decide)) cy129 | have cy129 := CY_o (ks_av (o := 129) hk2 (by rfl)) cy129 | skip); clear hk2))
                  | (obtain ⟨Z', rfl, rfl, hI2, hk2⟩ := hq; (first | have hk3 := kp_to (by first | with_reducible assumption | assumption) (by rfl) hk2 | have hk3 := ks_to (by first | with_reducible assumption | assumption) (by rfl) hk2); (first | have fl128 := FL_o (kp_av (o := 128) hk2 (by rfl) (by decide)) fl128 | have fl128 := FL_o (ks_av (o := 128) hk2 (by rfl)) fl128 | skip); (first | have cy129 := CY_o (kp_av (o := 129) hk2 (by rfl) (by decide)) cy129 | have cy129 := CY_o (ks_av (o := 129) hk2 (by rfl)) cy129 | skip); clear hk2))
               | (intro hc; (try simp only [cmp3_c] at hc); simp only [cmpI] at hc)
               | (show CI _; assumption)
               | intro (_ : Int)
               | intro (Z' : ZT)
               | intro (_ : CI _)
               | (intro (hkk : kp _ _ _))
               | intro (_ : _ ≤ _)
               | (intro (hup : _ = upZ _ _ _ _); (try dsimp only at hup); (first | have fl128 := FL_up hup fl128 (by first | rfl | omega) (by omega) | have fl128 := FL_o (up_o hup (by decide)) fl128 | skip); (first | have cy129 := CY_up hup cy129 qcy129 (by omega) | have cy129 := CY_o (up_o hup (by decide)) cy129 | skip); (first | have hEB := EB_o (up_o hup (by decide)) (by assumption) | have hEB := EB_up (s := 0) hup (by assumption) (by first | omega | (simp (disch := omega) only [w32_id]; first | done | omega)) (by first | omega | (simp (disch := omega) only [w32_id]; first | done | omega)) (by omega) (by first | omega | (simp (disch := omega) only [w32_id]; first | done | omega)) | skip); (try have hFB := FB_o (up_o hup (by decide)) (by assumption)))
               | (intro (hld : _ = _); (try dsimp only at hld); (try simp only [Nat.reduceAdd] at hld); (try have qcy129 := hld.trans (congrFun e120 _)))
               | intro (_ : _ < _)
               | intro (_ : _ ≠ _)
               | intro (_ : _ ∨ _)))
        all_goals first
          | refine hG.2 2 _ [(0, vr 100), (1, vi _)] _ _ rfl ?_
          | skip
        all_goals first
          | with_reducible rfl
          | ((with_reducible show _ = _); rfl)
          | ((with_reducible show recvG _ _); rfl)
          | ((with_reducible show G 2 _ _ _); refine ih2 _ _ ?_ ?_ ?_ ?_; assumption; assumption; (refine ⟨?_, ?_, ?_, ?_, trivial⟩; (first | done | focus (first | (dsimp only; done) | ((try dsimp only); (first | omega | (refine ⟨?_, ?_⟩ <;> (first | omega | ((try dsimp only); (first | omega | (simp (disch := omega) only [w32_id, w64_id]; omega) | (simp only [w32, w64]; omega) | (with_reducible refine (and32_le ?_ ?_).1 <;> omega) | (with_reducible refine (and32_le ?_ ?_).2 <;> omega) | (with_reducible refine (mulR ?_ ?_ ?_ ?_).1 <;> omega) | (with_reducible refine (mulR ?_ ?_ ?_ ?_).2 <;> omega) | (simp only [w32, w64] at *; omega) | (simp (disch := omega) only [w32_id, w64_id] at *; omega) | (simp (disch := omega) only [tdiv_nn, tmod_nn, w32_id, w64_id] at *; omega) | (subst_vars; simp [upZ] at *; omega) | (subst_vars; simp [upZ] at *; simp only [w32, w64] at *; omega))) | fail)) | (first | omega | ((try dsimp only); (first | omega | (simp (disch := omega) only [w32_id, w64_id]; omega) | (simp only [w32, w64]; omega) | (with_reducible refine (and32_le ?_ ?_).1 <;> omega) | (with_reducible refine (and32_le ?_ ?_).2 <;> omega) | (with_reducible refine (mulR ?_ ?_ ?_ ?_).1 <;> omega) | (with_reducible refine (mulR ?_ ?_ ?_ ?_).2 <;> omega) | (simp only [w32, w64] at *; omega) | (simp (disch := omega) only [w32_id, w64_id] at *; omega) | (simp (disch := omega) only [tdiv_nn, tmod_nn, w32_id, w64_id] at *; omega) | (subst_vars; simp [upZ] at *; omega) | (subst_vars; simp [upZ] at *; simp only [w32, w64] at *; omega))) | fail) | fail)))); (first | done | focus (first | (dsimp only; done) | ((try dsimp only); ((first | with_reducible assumption | exact EB_o (by assumption) (by assumption) | fail))))); (first | done | focus (first | (dsimp only; done) | ((try dsimp only); ((first | with_reducible assumption | (with_reducible refine CY_m (by assumption) ?_; (first | omega | (simp (disch := omega) only [w32_id]; first | done | omega))) | exact CY_0 (by omega) | fail))))); (first | done | focus (first | (dsimp only; done) | ((try dsimp only); ((first | with_reducible assumption | (with_reducible refine FL_m (by assumption) ?_; (first | omega | (simp (disch := omega) only [w32_id]; first | done | omega))) | exact FL_0 (by omega) | fail)))))); (first | omega | ((try dsimp only); (first | omega | (simp (disch := omega) only [w32_id, w64_id]; omega) | (simp only [w32, w64]; omega) | (with_reducible refine (and32_le ?_ ?_).1 <;> omega) | (with_reducible refine (and32_le ?_ ?_).2 <;> omega) | (with_reducible refine (mulR ?_ ?_ ?_ ?_).1 <;> omega) | (with_reducible refine (mulR ?_ ?_ ?_ ?_).2 <;> omega) | (simp only [w32, w64] at *; omega) | (simp (disch := omega) only [w32_id, w64_id] at *; omega) | (simp (disch := omega) only [tdiv_nn, tmod_nn, w32_id, w64_id] at *; omega) | (subst_vars; simp [upZ] at *; omega) | (subst_vars; simp [upZ] at *; simp only [w32, w64] at *; omega))) | fail))
          | with_reducible exact trivial
          | with_reducible assumption
          | (intro c hc; exact fl128 c (by omega))
          | (refine Exists.intro _ (And.intro rfl (And.intro rfl ?_)); refine ⟨by assumption, by assumption, ?_⟩; (refine ⟨?_, ?_, trivial⟩; (first | done | focus (first | (dsimp only; done) | ((try dsimp only); ((first | with_reducible assumption | exact EB_o (by assumption) (by assumption) | fail))))); (first | done | focus (first | (dsimp only; done) | ((try dsimp only); ((first | exact own_ag hag w2 (by omega) hIZ g0 g1 g2 g119 g3 | fail)))))))
          | (refine Exists.intro _ (And.intro rfl (And.intro rfl ?_)); refine ⟨by assumption, by assumption, ?_⟩; simp only [Nat.reduceAdd] at *; (refine ⟨?_, ?_, trivial⟩; (first | done | focus (first | (dsimp only; done) | ((try dsimp only); ((first | with_reducible assumption | exact EB_o (by assumption) (by assumption) | fail))))); (first | done | focus (first | (dsimp only; done) | ((try dsimp only); ((first | exact own_ag hag w2 (by omega) hIZ g0 g1 g2 g119 g3 | fail)))))))
          | omega
          | (dsimp only; omega)
          | decide
          | (show (0 : Int) < _; omega)
          | (show (0 : Int) < _; simp only [w64] at *; omega)
          | (simp only [w32, w64] at *; omega)
          | (first | omega | ((try dsimp only); (first | omega | (simp (disch := omega) only [w32_id, w64_id]; omega) | (simp only [w32, w64]; omega) | (with_reducible refine (and32_le ?_ ?_).1 <;> omega) | (with_reducible refine (and32_le ?_ ?_).2 <;> omega) | (with_reducible refine (mulR ?_ ?_ ?_ ?_).1 <;> omega) | (with_reducible refine (mulR ?_ ?_ ?_ ?_).2 <;> omega) | (simp only [w32, w64] at *; omega) | (simp (disch := omega) only [w32_id, w64_id] at *; omega) | (simp (disch := omega) only [tdiv_nn, tmod_nn, w32_id, w64_id] at *; omega) | (subst_vars; simp [upZ] at *; omega) | (subst_vars; simp [upZ] at *; simp only [w32, w64] at *; omega))) | fail)
          | ((with_reducible show swT _ _ _ _); exact trivial)
          | rfl
          | skip
  have hIZ := hI
  refine wq_run hG n R0 [2] 900 _ _ _ _ ?_
  repeat' (first
      | with_reducible rfl
      | refine And.intro ?_ ?_
      | with_reducible exact True.intro
      | ((with_reducible show _ = true); rfl)
      | ((with_reducible show recvG _ _); rfl)
      | ((with_reducible show CI _); first | with_reducible assumption | assumption)
      | (fail_if_success (first | (with_reducible show _ ≤ _) | (with_reducible show _ = _) | (with_reducible show _ ∨ _) | (with_reducible show _ < _))
         first
         | (refine ld_bnd (by first | with_reducible assumption | assumption) rfl ?_; intro _ _ _ hld; (try dsimp only at hld); (try simp only [Nat.reduceAdd] at hld); (try have qcy129 := hld.trans (congrFun e120 _)))
         | (refine st_k (by first | with_reducible assumption | assumption) (by first | with_reducible assumption | assumption) (by first | exact Or.inl (by decide) | exact Or.inr (by decide)) (fun lo hi hb => by first | (cases hb; done) | (cases hb; constructor <;> (first | omega | ((try dsimp only); (first | omega | (simp (disch := omega) only [w32_id, w64_id]; omega) | (simp only [w32, w64]; omega) | (with_reducible refine (and32_le ?_ ?_).1 <;> omega) | (with_reducible refine (and32_le ?_ ?_).2 <;> omega) | (with_reducible refine (mulR ?_ ?_ ?_ ?_).1 <;> omega) | (with_reducible refine (mulR ?_ ?_ ?_ ?_).2 <;> omega) | (simp only [w32, w64] at *; omega) | (simp (disch := omega) only [w32_id, w64_id] at *; omega) | (simp (disch := omega) only [tdiv_nn, tmod_nn, w32_id, w64_id] at *; omega) | (subst_vars; simp [upZ] at *; omega) | (subst_vars; simp [upZ] at *; simp only [w32, w64] at *; omega))) | fail))) ?_; intro Z' _ hkk; intro hld; (try dsimp only at hld); (try simp only [Nat.reduceAdd] at hld); (try have qcy129 := hld.trans (congrFun e120 _)); intro hup; (try dsimp only at hup); (first | have fl128 := FL_up hup fl128 (by first | rfl | omega) (by omega) | have fl128 := FL_o (up_o hup (by decide)) fl128 | skip); (first | have cy129 := CY_up hup cy129 qcy129 (by omega) | have cy129 := CY_o (up_o hup (by decide)) cy129 | skip); (first | have hEB := EB_o (up_o hup (by decide)) (by assumption) | have hEB := EB_up (s := 0) hup (by assumption) (by first | omega | (simp (disch := omega) only [w32_id]; first | done | omega)) (by first | omega | (simp (disch := omega) only [w32_id]; first | done | omega)) (by omega) (by first | omega | (simp (disch := omega) only [w32_id]; first | done | omega)) | skip); (try have hFB := FB_o (up_o hup (by decide)) (by assumption)))
         | (refine st_k (by first | with_reducible assumption | assumption) (by first | with_reducible assumption | assumption) (by first | exact Or.inl (by decide) | exact Or.inr (by decide)) (fun lo hi hb => ?_) ?_; (cases hb; refine And.intro ?_ ?_))
         | refine st_same ?_
         | (intro (r : Option PV) σ' hq
            first
            | (obtain ⟨rfl, x, rfl, hp⟩ := hq; (try replace hp : _ ∧ _ := hp); (try dsimp only at hp); (try (obtain ⟨hEB, hag, -⟩ := hp; replace hEB : EB _ := hEB)))
            | (obtain ⟨Z', (o : Nat), rfl, rfl, hI2, hk2, ⟨⟨hp, rfl⟩ | ⟨hp, rfl⟩, -⟩⟩ := hq <;> ((first | have hk3 := kp_to (by first | with_reducible assumption | assumption) (by rfl) hk2 | have hk3 := ks_to (by first | with_reducible assumption | assumption) (by rfl) hk2); (first | have fl128 := FL_o (kp_av (o := 128) hk2 (by rfl) (by decide)) fl128 | have fl128 := FL_o (ks_av (o := 128) hk2 (by rfl)) fl128 | skip); (first | have cy129 := CY_o (kp_av (o := 129) hk2 (by rfl) (by decide)) cy129 | have cy129 := CY_o (ks_av (o := 129) hk2 (by rfl)) cy129 | skip); clear hk2))
            | (obtain ⟨Z', x, rfl, rfl, hI2, hk2, hp⟩ := hq; (try replace hp : _ ∧ _ := hp); (try dsimp only at hp); (first | have hk3 := kp_to (by first | with_reducible assumption | assumption) (by rfl) hk2 | have hk3 := ks_to (by first | with_reducible assumption | assumption) (by rfl) hk2); (first | have fl128 := FL_o (kp_av (o := 128) hk2 (by rfl) (by decide)) fl128 | have fl128 := FL_o (ks_av (o := 128) hk2 (by rfl)) fl128 | skip); (first | have cy129 := CY_o (kp_av (o := 129) hk2 (by rfl) (by decide)) cy129 | have cy129 := CY_o (ks_av (o := 129) hk2 (by rfl)) cy129 | skip); clear hk2; (try (obtain ⟨hEB, hag, -⟩ := hp; replace hEB : EB _ := hEB)))
            | (obtain ⟨Z', rfl, rfl, hI2, hk2, hp⟩ := hq; (try replace hp : _ ∧ _ := hp); (try dsimp only at hp); (first | have hk3 := kp_to (by first | with_reducible assumption | assumption) (by rfl) hk2 | have hk3 := ks_to (by first | with_reducible assumption | assumption) (by rfl) hk2); (first | have fl128 := FL_o (kp_av (o := 128) hk2 (by rfl) (by decide)) fl128 | have fl128 := FL_o (ks_av (o := 128) hk2 (by rfl)) fl128 | skip); (first | have cy129 := CY_o (kp_av (o := 129) hk2 (by rfl) (by decide)) cy129 | have cy129 := CY_o (ks_av (o := 129) hk2 (by rfl)) cy129 | skip); clear hk2; (try (obtain ⟨hEB, hag, -⟩ := hp; replace hEB : EB _ := hEB)))
            | (obtain ⟨rfl, rfl⟩ := hq)
            | (obtain ⟨Z', x, rfl, rfl, hI2, hk2⟩ := hq; have hkn := keeps_nil hk2; clear hk2; subst hkn)
            | (obtain ⟨Z', x, rfl, rfl, hI2, hk2⟩ := hq; (first | have hk3 := kp_to (by first | with_reducible assumption | assumption) (by rfl) hk2 | have hk3 := ks_to (by first | with_reducible assumption | assumption) (by rfl) hk2); (first | have fl128 := FL_o (kp_av (o := 128) hk2 (by rfl) (by decide)) fl128 | have fl128 := FL_o (ks_av (o := 128) hk2 (by rfl)) fl128 | skip); (first | have cy129 := CY_o (kp_av (o := 129) hk2 (by rfl) (by decide)) cy129 | have cy129 := CY_o (ks_av (o := 129) hk2 (by rfl)) cy129 | skip); clear hk2)
            | (rcases hq with ⟨Z', rfl, rfl, hI2, hk2⟩ | ⟨Z', rfl, rfl, hI2, hk2⟩ <;> ((first | have hk3 := kp_to (by first | with_reducible assumption | assumption) (by rfl) hk2 | have hk3 := ks_to (by first | with_reducible assumption | assumption) (by rfl) hk2); (first | have fl128 := FL_o (kp_av (o := 128) hk2 (by rfl) (by decide)) fl128 | have fl128 := FL_o (ks_av (o := 128) hk2 (by rfl)) fl128 | skip); (first | have cy129 := CY_o (kp_av (o := 129) hk2 (by rfl) (by decide)) cy129 | have cy129 := CY_o (ks_av (o := 129) hk2 (by rfl)) cy129 | skip); clear hk2))
            | (obtain ⟨Z', rfl, rfl, hI2, hk2⟩ := hq; (first | have hk3 := kp_to (by first | with_reducible assumption | assumption) (by rfl) hk2 | have hk3 := ks_to (by first | with_reducible assumption | assumption) (by rfl) hk2); (first | have fl128 := FL_o (kp_av (o := 128) hk2 (by rfl) (by decide)) fl128 | have fl128 := FL_o (ks_av (o := 128) hk2 (by rfl)) fl128 | skip); (first | have cy129 := CY_o (kp_av (o := 129) hk2 (by rfl) (by decide)) cy129 | have cy129 := CY_o (ks_av (o := 129) hk2 (by rfl)) cy129 | skip); clear hk2))
         | (intro hc; (try simp only [cmp3_c] at hc); simp only [cmpI] at hc)
         | (show CI _; assumption)
         | intro (_ : Int)
         | intro (Z' : ZT)
         | intro (_ : CI _)
         | (intro (hkk : kp _ _ _))
         | intro (_ : _ ≤ _)
         | (intro (hup : _ = upZ _ _ _ _); (try dsimp only at hup); (first | have fl128 := FL_up hup fl128 (by first | rfl | omega) (by omega) | have fl128 := FL_o (up_o hup (by decide)) fl128 | skip); (first | have cy129 := CY_up hup cy129 qcy129 (by omega) | have cy129 := CY_o (up_o hup (by decide)) cy129 | skip); (first | have hEB := EB_o (up_o hup (by decide)) (by assumption) | have hEB := EB_up (s := 0) hup (by assumption) (by first | omega | (simp (disch := omega) only [w32_id]; first | done | omega)) (by first | omega | (simp (disch := omega) only [w32_id]; first | done | omega)) (by omega) (by first | omega | (simp (disch := omega) only [w32_id]; first | done | omega)) | skip); (try have hFB := FB_o (up_o hup (by decide)) (by assumption)))
         | (intro (hld : _ = _); (try dsimp only at hld); (try simp only [Nat.reduceAdd] at hld); (try have qcy129 := hld.trans (congrFun e120 _)))
         | intro (_ : _ < _)
         | intro (_ : _ ≠ _)
         | intro (_ : _ ∨ _)))
  all_goals (have lp2 := loop 1000000)
  all_goals first
    | refine hG.2 2 _ [(0, vr 100), (1, vi _)] _ _ rfl ?_
    | skip
  all_goals first
    | with_reducible rfl
    | ((with_reducible show _ = _); rfl)
    | ((with_reducible show recvG _ _); rfl)
    | ((with_reducible show G 2 _ _ _); refine lp2 _ _ ?_ ?_ ?_ ?_; assumption; assumption; (refine ⟨?_, ?_, ?_, ?_, trivial⟩; (first | done | focus (first | (dsimp only; done) | ((try dsimp only); (first | omega | (refine ⟨?_, ?_⟩ <;> (first | omega | ((try dsimp only); (first | omega | (simp (disch := omega) only [w32_id, w64_id]; omega) | (simp only [w32, w64]; omega) | (with_reducible refine (and32_le ?_ ?_).1 <;> omega) | (with_reducible refine (and32_le ?_ ?_).2 <;> omega) | (with_reducible refine (mulR ?_ ?_ ?_ ?_).1 <;> omega) | (with_reducible refine (mulR ?_ ?_ ?_ ?_).2 <;> omega) | (simp only [w32, w64] at *; omega) | (simp (disch := omega) only [w32_id, w64_id] at *; omega) | (simp (disch := omega) only [tdiv_nn, tmod_nn, w32_id, w64_id] at *; omega) | (subst_vars; simp [upZ] at *; omega) | (subst_vars; simp [upZ] at *; simp only [w32, w64] at *; omega))) | fail)) | (first | omega | ((try dsimp only); (first | omega | (simp (disch := omega) only [w32_id, w64_id]; omega) | (simp only [w32, w64]; omega) | (with_reducible refine (and32_le ?_ ?_).1 <;> omega) | (with_reducible refine (and32_le ?_ ?_).2 <;> omega) | (with_reducible refine (mulR ?_ ?_ ?_ ?_).1 <;> omega) | (with_reducible refine (mulR ?_ ?_ ?_ ?_).2 <;> omega) | (simp only [w32, w64] at *; omega) | (simp (disch := omega) only [w32_id, w64_id] at *; omega) | (simp (disch := omega) only [tdiv_nn, tmod_nn, w32_id, w64_id] at *; omega) | (subst_vars; simp [upZ] at *; omega) | (subst_vars; simp [upZ] at *; simp only [w32, w64] at *; omega))) | fail) | fail)))); (first | done | focus (first | (dsimp only; done) | ((try dsimp only); ((first | with_reducible assumption | exact EB_o (by assumption) (by assumption) | fail))))); (first | done | focus (first | (dsimp only; done) | ((try dsimp only); ((first | with_reducible assumption | (with_reducible refine CY_m (by assumption) ?_; (first | omega | (simp (disch := omega) only [w32_id]; first | done | omega))) | exact CY_0 (by omega) | fail))))); (first | done | focus (first | (dsimp only; done) | ((try dsimp only); ((first | with_reducible assumption | (with_reducible refine FL_m (by assumption) ?_; (first | omega | (simp (disch := omega) only [w32_id]; first | done | omega))) | exact FL_0 (by omega) | fail)))))); (first | omega | ((try dsimp only); (first | omega | (simp (disch := omega) only [w32_id, w64_id]; omega) | (simp only [w32, w64]; omega) | (with_reducible refine (and32_le ?_ ?_).1 <;> omega) | (with_reducible refine (and32_le ?_ ?_).2 <;> omega) | (with_reducible refine (mulR ?_ ?_ ?_ ?_).1 <;> omega) | (with_reducible refine (mulR ?_ ?_ ?_ ?_).2 <;> omega) | (simp only [w32, w64] at *; omega) | (simp (disch := omega) only [w32_id, w64_id] at *; omega) | (simp (disch := omega) only [tdiv_nn, tmod_nn, w32_id, w64_id] at *; omega) | (subst_vars; simp [upZ] at *; omega) | (subst_vars; simp [upZ] at *; simp only [w32, w64] at *; omega))) | fail))
    | with_reducible exact trivial
    | with_reducible assumption
    | (intro c hc; exact fl128 c (by omega))
    | (refine Exists.intro _ (And.intro rfl (And.intro rfl ?_)); refine ⟨by assumption, by assumption, ?_⟩; (refine ⟨?_, ?_, trivial⟩; (first | done | focus (first | (dsimp only; done) | ((try dsimp only); ((first | with_reducible assumption | exact EB_o (by assumption) (by assumption) | fail))))); (first | done | focus (first | (dsimp only; done) | ((try dsimp only); ((first | exact own_ag hag w2 (by omega) hIZ g0 g1 g2 g119 g3 | fail)))))))
    | (refine Exists.intro _ (And.intro rfl (And.intro rfl ?_)); refine ⟨by assumption, by assumption, ?_⟩; simp only [Nat.reduceAdd] at *; (refine ⟨?_, ?_, trivial⟩; (first | done | focus (first | (dsimp only; done) | ((try dsimp only); ((first | with_reducible assumption | exact EB_o (by assumption) (by assumption) | fail))))); (first | done | focus (first | (dsimp only; done) | ((try dsimp only); ((first | exact own_ag hag w2 (by omega) hIZ g0 g1 g2 g119 g3 | fail)))))))
    | omega
    | (dsimp only; omega)
    | decide
    | (show (0 : Int) < _; omega)
    | (show (0 : Int) < _; simp only [w64] at *; omega)
    | (simp only [w32, w64] at *; omega)
    | (first | omega | ((try dsimp only); (first | omega | (simp (disch := omega) only [w32_id, w64_id]; omega) | (simp only [w32, w64]; omega) | (with_reducible refine (and32_le ?_ ?_).1 <;> omega) | (with_reducible refine (and32_le ?_ ?_).2 <;> omega) | (with_reducible refine (mulR ?_ ?_ ?_ ?_).1 <;> omega) | (with_reducible refine (mulR ?_ ?_ ?_ ?_).2 <;> omega) | (simp only [w32, w64] at *; omega) | (simp (disch := omega) only [w32_id, w64_id] at *; omega) | (simp (disch := omega) only [tdiv_nn, tmod_nn, w32_id, w64_id] at *; omega) | (subst_vars; simp [upZ] at *; omega) | (subst_vars; simp [upZ] at *; simp only [w32, w64] at *; omega))) | fail)
    | ((with_reducible show swT _ _ _ _); exact trivial)
    | rfl
    | skip
