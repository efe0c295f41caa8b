/-! ===== constructors of what holds others, once more ===== -/
def s_X6_initF : Sp := (1, 6, 11, fun as σ => match as with
    | [.inr (.inr a0)] => ((a0 = 6)) ∧ σ.1 = a0 ∧ σ.2.2 = RT (bX6 a0) ∧ CI σ.2.1 ∧ (∀ k, σ.2.1 a0 k = 0)
    | _ => False, fun as σ r σ' => match as with
    | [.inr (.inr a0)] => ∃ Z' : ZT, r = none ∧ σ' = (a0 + 11, Z', RT (eX6 a0)) ∧ CI Z' ∧ (∀ o, o < a0 → Z' o = σ.2.1 o) ∧ (Z' 6 1 = 0)
    | _ => False)
set_option maxRecDepth 100000 in
set_option maxHeartbeats 40000000 in
theorem c_X6_initF {l : Launch} {D : va_G} {cA : Nat → ClassId} : PM l D cA yX6_init cX6_init 1 none 2 41 s_X6_initF := by
  refine of_X6_init (c_X5_initF) ⟨rfl, rfl⟩ (fun as σ hwf hao hpre => ?_)
  obtain ⟨n, Z, R⟩ := σ
  rcases as with _ | ⟨x | x | a0, _ | ⟨v, t⟩⟩ <;> first | exact (hpre : False).elim | skip
  obtain ⟨h0, hn, hR, hI, hz⟩ := hpre
  refine ⟨Nat.le_of_ble_eq_true rfl, fun G hG => ?_⟩
  clear hao hwf
  rcases h0 with rfl
  · obtain rfl : n = 6 := hn
    obtain rfl : R = RT 4 := hR
    have hFr : ∀ o, o < 7 → Z o = Z o := fun _ _ => rfl
    have hz : ∀ k, Z 6 k = 0 := hz
    refine wp_run hG [] 400 _ _ _ _ ?_
    repeat' (first
      | with_reducible rfl
      | (refine And.intro ?_ ?_ <;> (try dsimp only))
      | (intro (r : Option PV) σ' hq
         first
         | (obtain ⟨rfl, rfl⟩ := hq)
         | (obtain ⟨Z', rfl, rfl, hI2, hF, hV⟩ := hq; (try dsimp only at hF hV); (try have hFr : ∀ o, o < 7 → Z' o = Z o := fun o ho => (hF o (by omega)).trans (by (repeat (first | ((with_reducible show upZ _ _ _ _ _ = _); refine (upo (by omega)).trans ?_) | ((with_reducible show zrZ _ _ _ = _); refine (zro (by omega)).trans ?_) | fail)); (first | exact hFr o (by omega) | rfl))))
         | (obtain ⟨Z', rfl, rfl, hI2, hk2, -⟩ := hq; have hF := kp_lo (b := 7) hk2 (by rfl) (by decide); (try dsimp only at hF); (try have hFr : ∀ o, o < 7 → Z' o = Z o := fun o ho => (hF o (by omega)).trans (by (repeat (first | ((with_reducible show upZ _ _ _ _ _ = _); refine (upo (by omega)).trans ?_) | ((with_reducible show zrZ _ _ _ = _); refine (zro (by omega)).trans ?_) | fail)); (first | exact hFr o (by omega) | rfl))))
         | (obtain ⟨Z', rfl, rfl, hI2, hk2⟩ := hq; have hF := kp_lo (b := 7) hk2 (by rfl) (by decide); (try dsimp only at hF); (try have hFr : ∀ o, o < 7 → Z' o = Z o := fun o ho => (hF o (by omega)).trans (by (repeat (first | ((with_reducible show upZ _ _ _ _ _ = _); refine (upo (by omega)).trans ?_) | ((with_reducible show zrZ _ _ _ = _); refine (zro (by omega)).trans ?_) | fail)); (first | exact hFr o (by omega) | rfl))))
         | (obtain ⟨Z', rfl, rfl, hI2⟩ := hq))
      | (intro hc; (try simp only [cmp3_c] at hc); simp only [cmpI] at hc; first | (exfalso; revert hc; decide; done) | skip))
    all_goals first
      | with_reducible rfl
      | ((with_reducible show recvG _ _); rfl)
      | trivial
      | decide
      | ((with_reducible show preT _ _ _); show _ = RT _; (repeat (first | ((with_reducible show upR _ _ _ _ = _); refine up_RT ?_ (by decide +kernel)) | ((with_reducible show zrR _ _ = _); refine zr_RT ?_ (by decide +kernel)) | exact congrArg RT (by decide) | fail)))
      | ((with_reducible show _ = RT _); (repeat (first | ((with_reducible show upR _ _ _ _ = _); refine up_RT ?_ (by decide +kernel)) | ((with_reducible show zrR _ _ = _); refine zr_RT ?_ (by decide +kernel)) | exact congrArg RT (by decide) | fail)))
      | ((with_reducible show _ = R0); refine Eq.trans (b := RT 128) ?_ RT_all; (repeat (first | ((with_reducible show upR _ _ _ _ = _); refine up_RT ?_ (by decide +kernel)) | ((with_reducible show zrR _ _ = _); refine zr_RT ?_ (by decide +kernel)) | exact congrArg RT (by decide) | fail)))
      | ((with_reducible show CI _); (repeat (first | with_reducible assumption | ((with_reducible refine cix_m ?_ ?_) <;> assumption) | ((with_reducible refine cix_b70 (by assumption) ?_ ?_ ?_) <;> decide) | ((with_reducible refine cix_b72 (by assumption) ?_ ?_ ?_) <;> decide) | ((with_reducible refine cix_b74 (by assumption) ?_ ?_ ?_) <;> decide) | ((with_reducible refine cix_b76 (by assumption) ?_ ?_ ?_) <;> decide) | ((with_reducible show CI (zrZ _ _)); refine ci_zr ?_ (by decide +kernel)) | ((with_reducible show CI (upZ _ _ _ _)); refine ci_up ?_ (fun lo hi hb => by first | (cases hb; done) | (cases hb; exact ⟨by decide, by decide⟩))) | fail)))
      | ((with_reducible show CIx _ _); first | exact cix_of (by assumption) | assumption | exact cix_zr (by assumption) (by decide +kernel))
      | exact fun k => if_pos rfl
      | (show (0 : Int) ≤ 1872; decide)
      | (show (1872 : Int) ≤ 10000; decide)
      | (show (0 : Int) ≤ 468; decide)
      | (show (468 : Int) ≤ 10000; decide)
      | (refine Exists.intro _ (And.intro rfl (And.intro (Prod.ext rfl (Prod.ext rfl ?_)) ?_)); (first | (show _ = RT _; (repeat (first | ((with_reducible show upR _ _ _ _ = _); refine up_RT ?_ (by decide +kernel)) | ((with_reducible show zrR _ _ = _); refine zr_RT ?_ (by decide +kernel)) | exact congrArg RT (by decide) | fail))) | (show _ = R0; refine Eq.trans (b := RT 128) ?_ RT_all; (repeat (first | ((with_reducible show upR _ _ _ _ = _); refine up_RT ?_ (by decide +kernel)) | ((with_reducible show zrR _ _ = _); refine zr_RT ?_ (by decide +kernel)) | exact congrArg RT (by decide) | fail))) | rfl | fail); refine And.intro (by (repeat (first | with_reducible assumption | ((with_reducible refine cix_m ?_ ?_) <;> assumption) | ((with_reducible refine cix_b70 (by assumption) ?_ ?_ ?_) <;> decide) | ((with_reducible refine cix_b72 (by assumption) ?_ ?_ ?_) <;> decide) | ((with_reducible refine cix_b74 (by assumption) ?_ ?_ ?_) <;> decide) | ((with_reducible refine cix_b76 (by assumption) ?_ ?_ ?_) <;> decide) | ((with_reducible show CI (zrZ _ _)); refine ci_zr ?_ (by decide +kernel)) | ((with_reducible show CI (upZ _ _ _ _)); refine ci_up ?_ (fun lo hi hb => by first | (cases hb; done) | (cases hb; exact ⟨by decide, by decide⟩))) | fail))) (And.intro (fun o ho => by (repeat (first | ((with_reducible show upZ _ _ _ _ _ = _); refine (upo (by omega)).trans ?_) | ((with_reducible show zrZ _ _ _ = _); refine (zro (by omega)).trans ?_) | fail)); (first | exact hFr o (by omega) | rfl)) (by exact (congrFun (hFr 6 (by decide)) 1).trans (hz 1))))
      | rfl
      | omega
      | skip
def s_X7_initF : Sp := (1, 7, 16, fun as σ => match as with
    | [.inr (.inr a0)] => ((a0 = 18) ∨ (a0 = 36) ∨ (a0 = 53)) ∧ σ.1 = a0 ∧ σ.2.2 = RT (bX7 a0) ∧ CI σ.2.1
    | _ => False, fun as σ r σ' => match as with
    | [.inr (.inr a0)] => ∃ Z' : ZT, r = none ∧ σ' = (a0 + 16, Z', RT (eX7 a0)) ∧ CI Z' ∧ (∀ o, o < a0 → Z' o = σ.2.1 o) ∧ (True)
    | _ => False)
set_option maxRecDepth 100000 in
set_option maxHeartbeats 40000000 in
theorem c_X7_initF {l : Launch} {D : va_G} {cA : Nat → ClassId} : PM l D cA yX7_init cX7_init 1 none 2 41 s_X7_initF := by
  refine of_X7_init (c_X5_initF) ⟨rfl, rfl⟩ (c_X7_clearFirstsT) ⟨rfl, rfl⟩ (fun as σ hwf hao hpre => ?_)
  obtain ⟨n, Z, R⟩ := σ
  rcases as with _ | ⟨x | x | a0, _ | ⟨v, t⟩⟩ <;> first | exact (hpre : False).elim | skip
  obtain ⟨h0, hn, hR, hI⟩ := hpre
  refine ⟨Nat.le_of_ble_eq_true rfl, fun G hG => ?_⟩
  clear hao hwf
  rcases h0 with rfl | rfl | rfl
  · obtain rfl : n = 18 := hn
    obtain rfl : R = RT 16 := hR
    have hFr : ∀ o, o < 19 → Z o = Z o := fun _ _ => rfl
    refine wp_run hG [] 400 _ _ _ _ ?_
    repeat' (first
      | with_reducible rfl
      | (refine And.intro ?_ ?_ <;> (try dsimp only))
      | (intro (r : Option PV) σ' hq
         first
         | (obtain ⟨rfl, rfl⟩ := hq)
         | (obtain ⟨Z', rfl, rfl, hI2, hF, hV⟩ := hq; (try dsimp only at hF hV); (try have hFr : ∀ o, o < 19 → Z' o = Z o := fun o ho => (hF o (by omega)).trans (by (repeat (first | ((with_reducible show upZ _ _ _ _ _ = _); refine (upo (by omega)).trans ?_) | ((with_reducible show zrZ _ _ _ = _); refine (zro (by omega)).trans ?_) | fail)); (first | exact hFr o (by omega) | rfl))))
         | (obtain ⟨Z', rfl, rfl, hI2, hk2, -⟩ := hq; have hF := kp_lo (b := 19) hk2 (by rfl) (by decide); (try dsimp only at hF); (try have hFr : ∀ o, o < 19 → Z' o = Z o := fun o ho => (hF o (by omega)).trans (by (repeat (first | ((with_reducible show upZ _ _ _ _ _ = _); refine (upo (by omega)).trans ?_) | ((with_reducible show zrZ _ _ _ = _); refine (zro (by omega)).trans ?_) | fail)); (first | exact hFr o (by omega) | rfl))))
         | (obtain ⟨Z', rfl, rfl, hI2, hk2⟩ := hq; have hF := kp_lo (b := 19) hk2 (by rfl) (by decide); (try dsimp only at hF); (try have hFr : ∀ o, o < 19 → Z' o = Z o := fun o ho => (hF o (by omega)).trans (by (repeat (first | ((with_reducible show upZ _ _ _ _ _ = _); refine (upo (by omega)).trans ?_) | ((with_reducible show zrZ _ _ _ = _); refine (zro (by omega)).trans ?_) | fail)); (first | exact hFr o (by omega) | rfl))))
         | (obtain ⟨Z', rfl, rfl, hI2⟩ := hq))
      | (intro hc; (try simp only [cmp3_c] at hc); simp only [cmpI] at hc; first | (exfalso; revert hc; decide; done) | skip))
    all_goals first
      | with_reducible rfl
      | ((with_reducible show recvG _ _); rfl)
      | trivial
      | decide
      | ((with_reducible show preT _ _ _); show _ = RT _; (repeat (first | ((with_reducible show upR _ _ _ _ = _); refine up_RT ?_ (by decide +kernel)) | ((with_reducible show zrR _ _ = _); refine zr_RT ?_ (by decide +kernel)) | exact congrArg RT (by decide) | fail)))
      | ((with_reducible show _ = RT _); (repeat (first | ((with_reducible show upR _ _ _ _ = _); refine up_RT ?_ (by decide +kernel)) | ((with_reducible show zrR _ _ = _); refine zr_RT ?_ (by decide +kernel)) | exact congrArg RT (by decide) | fail)))
      | ((with_reducible show _ = R0); refine Eq.trans (b := RT 128) ?_ RT_all; (repeat (first | ((with_reducible show upR _ _ _ _ = _); refine up_RT ?_ (by decide +kernel)) | ((with_reducible show zrR _ _ = _); refine zr_RT ?_ (by decide +kernel)) | exact congrArg RT (by decide) | fail)))
      | ((with_reducible show CI _); (repeat (first | with_reducible assumption | ((with_reducible refine cix_m ?_ ?_) <;> assumption) | ((with_reducible refine cix_b70 (by assumption) ?_ ?_ ?_) <;> decide) | ((with_reducible refine cix_b72 (by assumption) ?_ ?_ ?_) <;> decide) | ((with_reducible refine cix_b74 (by assumption) ?_ ?_ ?_) <;> decide) | ((with_reducible refine cix_b76 (by assumption) ?_ ?_ ?_) <;> decide) | ((with_reducible show CI (zrZ _ _)); refine ci_zr ?_ (by decide +kernel)) | ((with_reducible show CI (upZ _ _ _ _)); refine ci_up ?_ (fun lo hi hb => by first | (cases hb; done) | (cases hb; exact ⟨by decide, by decide⟩))) | fail)))
      | ((with_reducible show CIx _ _); first | exact cix_of (by assumption) | assumption | exact cix_zr (by assumption) (by decide +kernel))
      | exact fun k => if_pos rfl
      | (show (0 : Int) ≤ 1872; decide)
      | (show (1872 : Int) ≤ 10000; decide)
      | (show (0 : Int) ≤ 468; decide)
      | (show (468 : Int) ≤ 10000; decide)
      | (refine Exists.intro _ (And.intro rfl (And.intro (Prod.ext rfl (Prod.ext rfl ?_)) ?_)); (first | (show _ = RT _; (repeat (first | ((with_reducible show upR _ _ _ _ = _); refine up_RT ?_ (by decide +kernel)) | ((with_reducible show zrR _ _ = _); refine zr_RT ?_ (by decide +kernel)) | exact congrArg RT (by decide) | fail))) | (show _ = R0; refine Eq.trans (b := RT 128) ?_ RT_all; (repeat (first | ((with_reducible show upR _ _ _ _ = _); refine up_RT ?_ (by decide +kernel)) | ((with_reducible show zrR _ _ = _); refine zr_RT ?_ (by decide +kernel)) | exact congrArg RT (by decide) | fail))) | rfl | fail); refine And.intro (by (repeat (first | with_reducible assumption | ((with_reducible refine cix_m ?_ ?_) <;> assumption) | ((with_reducible refine cix_b70 (by assumption) ?_ ?_ ?_) <;> decide) | ((with_reducible refine cix_b72 (by assumption) ?_ ?_ ?_) <;> decide) | ((with_reducible refine cix_b74 (by assumption) ?_ ?_ ?_) <;> decide) | ((with_reducible refine cix_b76 (by assumption) ?_ ?_ ?_) <;> decide) | ((with_reducible show CI (zrZ _ _)); refine ci_zr ?_ (by decide +kernel)) | ((with_reducible show CI (upZ _ _ _ _)); refine ci_up ?_ (fun lo hi hb => by first | (cases hb; done) | (cases hb; exact ⟨by decide, by decide⟩))) | fail))) (And.intro (fun o ho => by (repeat (first | ((with_reducible show upZ _ _ _ _ _ = _); refine (upo (by omega)).trans ?_) | ((with_reducible show zrZ _ _ _ = _); refine (zro (by omega)).trans ?_) | fail)); (first | exact hFr o (by omega) | rfl)) (by exact trivial)))
      | rfl
      | omega
      | skip
  · obtain rfl : n = 36 := hn
    obtain rfl : R = RT 33 := hR
    have hFr : ∀ o, o < 37 → Z o = Z o := fun _ _ => rfl
    refine wp_run hG [] 400 _ _ _ _ ?_
    repeat' (first
      | with_reducible rfl
      | (refine And.intro ?_ ?_ <;> (try dsimp only))
      | (intro (r : Option PV) σ' hq
         first
         | (obtain ⟨rfl, rfl⟩ := hq)
         | (obtain ⟨Z', rfl, rfl, hI2, hF, hV⟩ := hq; (try dsimp only at hF hV); (try have hFr : ∀ o, o < 37 → Z' o = Z o := fun o ho => (hF o (by omega)).trans (by (repeat (first | ((with_reducible show upZ _ _ _ _ _ = _); refine (upo (by omega)).trans ?_) | ((with_reducible show zrZ _ _ _ = _); refine (zro (by omega)).trans ?_) | fail)); (first | exact hFr o (by omega) | rfl))))
         | (obtain ⟨Z', rfl, rfl, hI2, hk2, -⟩ := hq; have hF := kp_lo (b := 37) hk2 (by rfl) (by decide); (try dsimp only at hF); (try have hFr : ∀ o, o < 37 → Z' o = Z o := fun o ho => (hF o (by omega)).trans (by (repeat (first | ((with_reducible show upZ _ _ _ _ _ = _); refine (upo (by omega)).trans ?_) | ((with_reducible show zrZ _ _ _ = _); refine (zro (by omega)).trans ?_) | fail)); (first | exact hFr o (by omega) | rfl))))
         | (obtain ⟨Z', rfl, rfl, hI2, hk2⟩ := hq; have hF := kp_lo (b := 37) hk2 (by rfl) (by decide); (try dsimp only at hF); (try have hFr : ∀ o, o < 37 → Z' o = Z o := fun o ho => (hF o (by omega)).trans (by (repeat (first | ((with_reducible show upZ _ _ _ _ _ = _); refine (upo (by omega)).trans ?_) | ((with_reducible show zrZ _ _ _ = _); refine (zro (by omega)).trans ?_) | fail)); (first | exact hFr o (by omega) | rfl))))
         | (obtain ⟨Z', rfl, rfl, hI2⟩ := hq))
      | (intro hc; (try simp only [cmp3_c] at hc); simp only [cmpI] at hc; first | (exfalso; revert hc; decide; done) | skip))
    all_goals first
      | with_reducible rfl
      | ((with_reducible show recvG _ _); rfl)
      | trivial
      | decide
      | ((with_reducible show preT _ _ _); show _ = RT _; (repeat (first | ((with_reducible show upR _ _ _ _ = _); refine up_RT ?_ (by decide +kernel)) | ((with_reducible show zrR _ _ = _); refine zr_RT ?_ (by decide +kernel)) | exact congrArg RT (by decide) | fail)))
      | ((with_reducible show _ = RT _); (repeat (first | ((with_reducible show upR _ _ _ _ = _); refine up_RT ?_ (by decide +kernel)) | ((with_reducible show zrR _ _ = _); refine zr_RT ?_ (by decide +kernel)) | exact congrArg RT (by decide) | fail)))
      | ((with_reducible show _ = R0); refine Eq.trans (b := RT 128) ?_ RT_all; (repeat (first | ((with_reducible show upR _ _ _ _ = _); refine up_RT ?_ (by decide +kernel)) | ((with_reducible show zrR _ _ = _); refine zr_RT ?_ (by decide +kernel)) | exact congrArg RT (by decide) | fail)))
      | ((with_reducible show CI _); (repeat (first | with_reducible assumption | ((with_reducible refine cix_m ?_ ?_) <;> assumption) | ((with_reducible refine cix_b70 (by assumption) ?_ ?_ ?_) <;> decide) | ((with_reducible refine cix_b72 (by assumption) ?_ ?_ ?_) <;> decide) | ((with_reducible refine cix_b74 (by assumption) ?_ ?_ ?_) <;> decide) | ((with_reducible refine cix_b76 (by assumption) ?_ ?_ ?_) <;> decide) | ((with_reducible show CI (zrZ _ _)); refine ci_zr ?_ (by decide +kernel)) | ((with_reducible show CI (upZ _ _ _ _)); refine ci_up ?_ (fun lo hi hb => by first | (cases hb; done) | (cases hb; exact ⟨by decide, by decide⟩))) | fail)))
      | ((with_reducible show CIx _ _); first | exact cix_of (by assumption) | assumption | exact cix_zr (by assumption) (by decide +kernel))
      | exact fun k => if_pos rfl
      | (show (0 : Int) ≤ 1872; decide)
      | (show (1872 : Int) ≤ 10000; decide)
      | (show (0 : Int) ≤ 468; decide)
      | (show (468 : Int) ≤ 10000; decide)
      | (refine Exists.intro _ (And.intro rfl (And.intro (Prod.ext rfl (Prod.ext rfl ?_)) ?_)); (first | (show _ = RT _; (repeat (first | ((with_reducible show upR _ _ _ _ = _); refine up_RT ?_ (by decide +kernel)) | ((with_reducible show zrR _ _ = _); refine zr_RT ?_ (by decide +kernel)) | exact congrArg RT (by decide) | fail))) | (show _ = R0; refine Eq.trans (b := RT 128) ?_ RT_all; (repeat (first | ((with_reducible show upR _ _ _ _ = _); refine up_RT ?_ (by decide +kernel)) | ((with_reducible show zrR _ _ = _); refine zr_RT ?_ (by decide +kernel)) | exact congrArg RT (by decide) | fail))) | rfl | fail); refine And.intro (by (repeat (first | with_reducible assumption | ((with_reducible refine cix_m ?_ ?_) <;> assumption) | ((with_reducible refine cix_b70 (by assumption) ?_ ?_ ?_) <;> decide) | ((with_reducible refine cix_b72 (by assumption) ?_ ?_ ?_) <;> decide) | ((with_reducible refine cix_b74 (by assumption) ?_ ?_ ?_) <;> decide) | ((with_reducible refine cix_b76 (by assumption) ?_ ?_ ?_) <;> decide) | ((with_reducible show CI (zrZ _ _)); refine ci_zr ?_ (by decide +kernel)) | ((with_reducible show CI (upZ _ _ _ _)); refine ci_up ?_ (fun lo hi hb => by first | (cases hb; done) | (cases hb; exact ⟨by decide, by decide⟩))) | fail))) (And.intro (fun o ho => by (repeat (first | ((with_reducible show upZ _ _ _ _ _ = _); refine (upo (by omega)).trans ?_) | ((with_reducible show zrZ _ _ _ = _); refine (zro (by omega)).trans ?_) | fail)); (first | exact hFr o (by omega) | rfl)) (by exact trivial)))
      | rfl
      | omega
      | skip
  · obtain rfl : n = 53 := hn
    obtain rfl : R = RT 50 := hR
    have hFr : ∀ o, o < 54 → Z o = Z o := fun _ _ => rfl
    refine wp_run hG [] 400 _ _ _ _ ?_
    repeat' (first
      | with_reducible rfl
      | (refine And.intro ?_ ?_ <;> (try dsimp only))
      | (intro (r : Option PV) σ' hq
         first
         | (obtain ⟨rfl, rfl⟩ := hq)
         | (obtain ⟨Z', rfl, rfl, hI2, hF, hV⟩ := hq; (try dsimp only at hF hV); (try have hFr : ∀ o, o < 54 → Z' o = Z o := fun o ho => (hF o (by omega)).trans (by (repeat (first | ((with_reducible show upZ _ _ _ _ _ = _); refine (upo (by omega)).trans ?_) | ((with_reducible show zrZ _ _ _ = _); refine (zro (by omega)).trans ?_) | fail)); (first | exact hFr o (by omega) | rfl))))
         | (obtain ⟨Z', rfl, rfl, hI2, hk2, -⟩ := hq; have hF := kp_lo (b := 54) hk2 (by rfl) (by decide); (try dsimp only at hF); (try have hFr : ∀ o, o < 54 → Z' o = Z o := fun o ho => (hF o (by omega)).trans (by (repeat (first | ((with_reducible show upZ _ _ _ _ _ = _); refine (upo (by omega)).trans ?_) | ((with_reducible show zrZ _ _ _ = _); refine (zro (by omega)).trans ?_) | fail)); (first | exact hFr o (by omega) | rfl))))
         | (obtain ⟨Z', rfl, rfl, hI2, hk2⟩ := hq; have hF := kp_lo (b := 54) hk2 (by rfl) (by decide); (try dsimp only at hF); (try have hFr : ∀ o, o < 54 → Z' o = Z o := fun o ho => (hF o (by omega)).trans (by (repeat (first | ((with_reducible show upZ _ _ _ _ _ = _); refine (upo (by omega)).trans ?_) | ((with_reducible show zrZ _ _ _ = _); refine (zro (by omega)).trans ?_) | fail)); (first | exact hFr o (by omega) | rfl))))
         | (obtain ⟨Z', rfl, rfl, hI2⟩ := hq))
      | (intro hc; (try simp only [cmp3_c] at hc); simp only [cmpI] at hc; first | (exfalso; revert hc; decide; done) | skip))
    all_goals first
      | with_reducible rfl
      | ((with_reducible show recvG _ _); rfl)
      | trivial
      | decide
      | ((with_reducible show preT _ _ _); show _ = RT _; (repeat (first | ((with_reducible show upR _ _ _ _ = _); refine up_RT ?_ (by decide +kernel)) | ((with_reducible show zrR _ _ = _); refine zr_RT ?_ (by decide +kernel)) | exact congrArg RT (by decide) | fail)))
      | ((with_reducible show _ = RT _); (repeat (first | ((with_reducible show upR _ _ _ _ = _); refine up_RT ?_ (by decide +kernel)) | ((with_reducible show zrR _ _ = _); refine zr_RT ?_ (by decide +kernel)) | exact congrArg RT (by decide) | fail)))
      | ((with_reducible show _ = R0); refine Eq.trans (b := RT 128) ?_ RT_all; (repeat (first | ((with_reducible show upR _ _ _ _ = _); refine up_RT ?_ (by decide +kernel)) | ((with_reducible show zrR _ _ = _); refine zr_RT ?_ (by decide +kernel)) | exact congrArg RT (by decide) | fail)))
      | ((with_reducible show CI _); (repeat (first | with_reducible assumption | ((with_reducible refine cix_m ?_ ?_) <;> assumption) | ((with_reducible refine cix_b70 (by assumption) ?_ ?_ ?_) <;> decide) | ((with_reducible refine cix_b72 (by assumption) ?_ ?_ ?_) <;> decide) | ((with_reducible refine cix_b74 (by assumption) ?_ ?_ ?_) <;> decide) | ((with_reducible refine cix_b76 (by assumption) ?_ ?_ ?_) <;> decide) | ((with_reducible show CI (zrZ _ _)); refine ci_zr ?_ (by decide +kernel)) | ((with_reducible show CI (upZ _ _ _ _)); refine ci_up ?_ (fun lo hi hb => by first | (cases hb; done) | (cases hb; exact ⟨by decide, by decide⟩))) | fail)))
      | ((with_reducible show CIx _ _); first | exact cix_of (by assumption) | assumption | exact cix_zr (by assumption) (by decide +kernel))
      | exact fun k => if_pos rfl
      | (show (0 : Int) ≤ 1872; decide)
      | (show (1872 : Int) ≤ 10000; decide)
      | (show (0 : Int) ≤ 468; decide)
      | (show (468 : Int) ≤ 10000; decide)
      | (refine Exists.intro _ (And.intro rfl (And.intro (Prod.ext rfl (Prod.ext rfl ?_)) ?_)); (first | (show _ = RT _; (repeat (first | ((with_reducible show upR _ _ _ _ = _); refine up_RT ?_ (by decide +kernel)) | ((with_reducible show zrR _ _ = _); refine zr_RT ?_ (by decide +kernel)) | exact congrArg RT (by decide) | fail))) | (show _ = R0; refine Eq.trans (b := RT 128) ?_ RT_all; (repeat (first | ((with_reducible show upR _ _ _ _ = _); refine up_RT ?_ (by decide +kernel)) | ((with_reducible show zrR _ _ = _); refine zr_RT ?_ (by decide +kernel)) | exact congrArg RT (by decide) | fail))) | rfl | fail); refine And.intro (by (repeat (first | with_reducible assumption | ((with_reducible refine cix_m ?_ ?_) <;> assumption) | ((with_reducible refine cix_b70 (by assumption) ?_ ?_ ?_) <;> decide) | ((with_reducible refine cix_b72 (by assumption) ?_ ?_ ?_) <;> decide) | ((with_reducible refine cix_b74 (by assumption) ?_ ?_ ?_) <;> decide) | ((with_reducible refine cix_b76 (by assumption) ?_ ?_ ?_) <;> decide) | ((with_reducible show CI (zrZ _ _)); refine ci_zr ?_ (by decide +kernel)) | ((with_reducible show CI (upZ _ _ _ _)); refine ci_up ?_ (fun lo hi hb => by first | (cases hb; done) | (cases hb; exact ⟨by decide, by decide⟩))) | fail))) (And.intro (fun o ho => by (repeat (first | ((with_reducible show upZ _ _ _ _ _ = _); refine (upo (by omega)).trans ?_) | ((with_reducible show zrZ _ _ _ = _); refine (zro (by omega)).trans ?_) | fail)); (first | exact hFr o (by omega) | rfl)) (by exact trivial)))
      | rfl
      | omega
      | skip
def s_X8_initF : Sp := (1, 8, 6, fun as σ => match as with
    | [.inr (.inr a0)] => ((a0 = 93)) ∧ σ.1 = a0 ∧ σ.2.2 = RT (bX8 a0) ∧ CI σ.2.1
    | _ => False, fun as σ r σ' => match as with
    | [.inr (.inr a0)] => ∃ Z' : ZT, r = none ∧ σ' = (a0 + 6, Z', RT (eX8 a0)) ∧ CI Z' ∧ (∀ o, o < a0 → Z' o = σ.2.1 o) ∧ (True)
    | _ => False)
set_option maxRecDepth 100000 in
set_option maxHeartbeats 40000000 in
theorem c_X8_initF {l : Launch} {D : va_G} {cA : Nat → ClassId} : PM l D cA yX8_init cX8_init 1 none 2 40 s_X8_initF := by
  refine of_X8_init (c_X9_initF) ⟨rfl, rfl⟩ (fun as σ hwf hao hpre => ?_)
  obtain ⟨n, Z, R⟩ := σ
  rcases as with _ | ⟨x | x | a0, _ | ⟨v, t⟩⟩ <;> first | exact (hpre : False).elim | skip
  obtain ⟨h0, hn, hR, hI⟩ := hpre
  refine ⟨Nat.le_of_ble_eq_true rfl, fun G hG => ?_⟩
  clear hao hwf
  rcases h0 with rfl
  · obtain rfl : n = 93 := hn
    obtain rfl : R = RT 91 := hR
    have hFr : ∀ o, o < 94 → Z o = Z o := fun _ _ => rfl
    refine wp_run hG [] 400 _ _ _ _ ?_
    repeat' (first
      | with_reducible rfl
      | (refine And.intro ?_ ?_ <;> (try dsimp only))
      | (intro (r : Option PV) σ' hq
         first
         | (obtain ⟨rfl, rfl⟩ := hq)
         | (obtain ⟨Z', rfl, rfl, hI2, hF, hV⟩ := hq; (try dsimp only at hF hV); (try have hFr : ∀ o, o < 94 → Z' o = Z o := fun o ho => (hF o (by omega)).trans (by (repeat (first | ((with_reducible show upZ _ _ _ _ _ = _); refine (upo (by omega)).trans ?_) | ((with_reducible show zrZ _ _ _ = _); refine (zro (by omega)).trans ?_) | fail)); (first | exact hFr o (by omega) | rfl))))
         | (obtain ⟨Z', rfl, rfl, hI2, hk2, -⟩ := hq; have hF := kp_lo (b := 94) hk2 (by rfl) (by decide); (try dsimp only at hF); (try have hFr : ∀ o, o < 94 → Z' o = Z o := fun o ho => (hF o (by omega)).trans (by (repeat (first | ((with_reducible show upZ _ _ _ _ _ = _); refine (upo (by omega)).trans ?_) | ((with_reducible show zrZ _ _ _ = _); refine (zro (by omega)).trans ?_) | fail)); (first | exact hFr o (by omega) | rfl))))
         | (obtain ⟨Z', rfl, rfl, hI2, hk2⟩ := hq; have hF := kp_lo (b := 94) hk2 (by rfl) (by decide); (try dsimp only at hF); (try have hFr : ∀ o, o < 94 → Z' o = Z o := fun o ho => (hF o (by omega)).trans (by (repeat (first | ((with_reducible show upZ _ _ _ _ _ = _); refine (upo (by omega)).trans ?_) | ((with_reducible show zrZ _ _ _ = _); refine (zro (by omega)).trans ?_) | fail)); (first | exact hFr o (by omega) | rfl))))
         | (obtain ⟨Z', rfl, rfl, hI2⟩ := hq))
      | (intro hc; (try simp only [cmp3_c] at hc); simp only [cmpI] at hc; first | (exfalso; revert hc; decide; done) | skip))
    all_goals first
      | with_reducible rfl
      | ((with_reducible show recvG _ _); rfl)
      | trivial
      | decide
      | ((with_reducible show preT _ _ _); show _ = RT _; (repeat (first | ((with_reducible show upR _ _ _ _ = _); refine up_RT ?_ (by decide +kernel)) | ((with_reducible show zrR _ _ = _); refine zr_RT ?_ (by decide +kernel)) | exact congrArg RT (by decide) | fail)))
      | ((with_reducible show _ = RT _); (repeat (first | ((with_reducible show upR _ _ _ _ = _); refine up_RT ?_ (by decide +kernel)) | ((with_reducible show zrR _ _ = _); refine zr_RT ?_ (by decide +kernel)) | exact congrArg RT (by decide) | fail)))
      | ((with_reducible show _ = R0); refine Eq.trans (b := RT 128) ?_ RT_all; (repeat (first | ((with_reducible show upR _ _ _ _ = _); refine up_RT ?_ (by decide +kernel)) | ((with_reducible show zrR _ _ = _); refine zr_RT ?_ (by decide +kernel)) | exact congrArg RT (by decide) | fail)))
      | ((with_reducible show CI _); (repeat (first | with_reducible assumption | ((with_reducible refine cix_m ?_ ?_) <;> assumption) | ((with_reducible refine cix_b70 (by assumption) ?_ ?_ ?_) <;> decide) | ((with_reducible refine cix_b72 (by assumption) ?_ ?_ ?_) <;> decide) | ((with_reducible refine cix_b74 (by assumption) ?_ ?_ ?_) <;> decide) | ((with_reducible refine cix_b76 (by assumption) ?_ ?_ ?_) <;> decide) | ((with_reducible show CI (zrZ _ _)); refine ci_zr ?_ (by decide +kernel)) | ((with_reducible show CI (upZ _ _ _ _)); refine ci_up ?_ (fun lo hi hb => by first | (cases hb; done) | (cases hb; exact ⟨by decide, by decide⟩))) | fail)))
      | ((with_reducible show CIx _ _); first | exact cix_of (by assumption) | assumption | exact cix_zr (by assumption) (by decide +kernel))
      | exact fun k => if_pos rfl
      | (show (0 : Int) ≤ 1872; decide)
      | (show (1872 : Int) ≤ 10000; decide)
      | (show (0 : Int) ≤ 468; decide)
      | (show (468 : Int) ≤ 10000; decide)
      | (refine Exists.intro _ (And.intro rfl (And.intro (Prod.ext rfl (Prod.ext rfl ?_)) ?_)); (first | (show _ = RT _; (repeat (first | ((with_reducible show upR _ _ _ _ = _); refine up_RT ?_ (by decide +kernel)) | ((with_reducible show zrR _ _ = _); refine zr_RT ?_ (by decide +kernel)) | exact congrArg RT (by decide) | fail))) | (show _ = R0; refine Eq.trans (b := RT 128) ?_ RT_all; (repeat (first | ((with_reducible show upR _ _ _ _ = _); refine up_RT ?_ (by decide +kernel)) | ((with_reducible show zrR _ _ = _); refine zr_RT ?_ (by decide +kernel)) | exact congrArg RT (by decide) | fail))) | rfl | fail); refine And.intro (by (repeat (first | with_reducible assumption | ((with_reducible refine cix_m ?_ ?_) <;> assumption) | ((with_reducible refine cix_b70 (by assumption) ?_ ?_ ?_) <;> decide) | ((with_reducible refine cix_b72 (by assumption) ?_ ?_ ?_) <;> decide) | ((with_reducible refine cix_b74 (by assumption) ?_ ?_ ?_) <;> decide) | ((with_reducible refine cix_b76 (by assumption) ?_ ?_ ?_) <;> decide) | ((with_reducible show CI (zrZ _ _)); refine ci_zr ?_ (by decide +kernel)) | ((with_reducible show CI (upZ _ _ _ _)); refine ci_up ?_ (fun lo hi hb => by first | (cases hb; done) | (cases hb; exact ⟨by decide, by decide⟩))) | fail))) (And.intro (fun o ho => by (repeat (first | ((with_reducible show upZ _ _ _ _ _ = _); refine (upo (by omega)).trans ?_) | ((with_reducible show zrZ _ _ _ = _); refine (zro (by omega)).trans ?_) | fail)); (first | exact hFr o (by omega) | rfl)) (by exact trivial)))
      | rfl
      | omega
      | skip
def s_X10_initF : Sp := (1, 10, 98, fun as σ => match as with
    | [.inr (.inr a0)] => ((a0 = 1)) ∧ σ.1 = a0 ∧ σ.2.2 = RT (bX10 a0) ∧ CI σ.2.1 ∧ (∀ k, σ.2.1 a0 k = 0)
    | _ => False, fun as σ r σ' => match as with
    | [.inr (.inr a0)] => ∃ Z' : ZT, r = none ∧ σ' = (a0 + 98, Z', RT (eX10 a0)) ∧ CI Z' ∧ (∀ o, o < a0 → Z' o = σ.2.1 o) ∧ (Z' 1 5 = 0 ∧ Z' 6 1 = 0 ∧ ∀ k : Nat, k < 6 → Z' 87 k = 5)
    | _ => False)
set_option maxRecDepth 100000 in
set_option maxHeartbeats 40000000 in
theorem c_X10_initF {l : Launch} {D : va_G} {cA : Nat → ClassId} : PM l D cA yX10_init cX10_init 1 none 3 74 s_X10_initF := by
  refine of_X10_init (c_X3_initF) ⟨rfl, rfl⟩ (c_X6_initF) ⟨rfl, rfl⟩ (c_X7_initF) ⟨rfl, rfl⟩ (c_X0_initF) ⟨rfl, rfl⟩ (c_X4_initF) ⟨rfl, rfl⟩ (c_X1_initF) ⟨rfl, rfl⟩ (c_X2_initF) ⟨rfl, rfl⟩ (c_X9_initF) ⟨rfl, rfl⟩ (c_X8_initF) ⟨rfl, rfl⟩ (fun as σ hwf hao hpre => ?_)
  obtain ⟨n, Z, R⟩ := σ
  rcases as with _ | ⟨x | x | a0, _ | ⟨v, t⟩⟩ <;> first | exact (hpre : False).elim | skip
  obtain ⟨h0, hn, hR, hI, hz⟩ := hpre
  refine ⟨Nat.le_of_ble_eq_true rfl, fun G hG => ?_⟩
  clear hao hwf
  rcases h0 with rfl
  · obtain rfl : n = 1 := hn
    obtain rfl : R = RT 0 := hR
    have hFr : ∀ o, o < 2 → Z o = Z o := fun _ _ => rfl
    have hz : ∀ k, Z 1 k = 0 := hz
    refine wp_run hG [] 400 _ _ _ _ ?_
    repeat' (first
      | with_reducible rfl
      | (refine And.intro ?_ ?_ <;> (try dsimp only))
      | (intro (r : Option PV) σ' hq
         first
         | (obtain ⟨rfl, rfl⟩ := hq)
         | (obtain ⟨Z', rfl, rfl, hI2, hF, hV⟩ := hq; (try dsimp only at hF hV); (try have hFr : ∀ o, o < 2 → Z' o = Z o := fun o ho => (hF o (by omega)).trans (by (repeat (first | ((with_reducible show upZ _ _ _ _ _ = _); refine (upo (by omega)).trans ?_) | ((with_reducible show zrZ _ _ _ = _); refine (zro (by omega)).trans ?_) | fail)); (first | exact hFr o (by omega) | rfl))); (first | have v61 : Z' 6 1 = 0 := hV | have v61 : Z' 6 1 = 0 := (congrFun ((hF 6 (by decide)).trans (by (repeat (first | ((with_reducible show upZ _ _ _ _ _ = _); refine (upo (by decide)).trans ?_) | ((with_reducible show zrZ _ _ _ = _); refine (zro (by decide)).trans ?_) | fail)); rfl)) 1).trans v61 | skip); (first | have v87 : ∀ k : Nat, k < 6 → Z' 87 k = 5 := hV | have v87 : ∀ k : Nat, k < 6 → Z' 87 k = 5 := fun k hk => (congrFun ((hF 87 (by decide)).trans (by (repeat (first | ((with_reducible show upZ _ _ _ _ _ = _); refine (upo (by decide)).trans ?_) | ((with_reducible show zrZ _ _ _ = _); refine (zro (by decide)).trans ?_) | fail)); rfl)) k).trans (v87 k hk) | skip))
         | (obtain ⟨Z', rfl, rfl, hI2, hk2, -⟩ := hq; have hF := kp_lo (b := 2) hk2 (by rfl) (by decide); (try dsimp only at hF); (try have hFr : ∀ o, o < 2 → Z' o = Z o := fun o ho => (hF o (by omega)).trans (by (repeat (first | ((with_reducible show upZ _ _ _ _ _ = _); refine (upo (by omega)).trans ?_) | ((with_reducible show zrZ _ _ _ = _); refine (zro (by omega)).trans ?_) | fail)); (first | exact hFr o (by omega) | rfl))); (first | have v61 : Z' 6 1 = 0 := hV | have v61 : Z' 6 1 = 0 := (congrFun ((hF 6 (by decide)).trans (by (repeat (first | ((with_reducible show upZ _ _ _ _ _ = _); refine (upo (by decide)).trans ?_) | ((with_reducible show zrZ _ _ _ = _); refine (zro (by decide)).trans ?_) | fail)); rfl)) 1).trans v61 | skip); (first | have v87 : ∀ k : Nat, k < 6 → Z' 87 k = 5 := hV | have v87 : ∀ k : Nat, k < 6 → Z' 87 k = 5 := fun k hk => (congrFun ((hF 87 (by decide)).trans (by (repeat (first | ((with_reducible show upZ _ _ _ _ _ = _); refine (upo (by decide)).trans ?_) | ((with_reducible show zrZ _ _ _ = _); refine (zro (by decide)).trans ?_) | fail)); rfl)) k).trans (v87 k hk) | skip))
         | (obtain ⟨Z', rfl, rfl, hI2, hk2⟩ := hq; have hF := kp_lo (b := 2) hk2 (by rfl) (by decide); (try dsimp only at hF); (try have hFr : ∀ o, o < 2 → Z' o = Z o := fun o ho => (hF o (by omega)).trans (by (repeat (first | ((with_reducible show upZ _ _ _ _ _ = _); refine (upo (by omega)).trans ?_) | ((with_reducible show zrZ _ _ _ = _); refine (zro (by omega)).trans ?_) | fail)); (first | exact hFr o (by omega) | rfl))); (first | have v61 : Z' 6 1 = 0 := hV | have v61 : Z' 6 1 = 0 := (congrFun ((hF 6 (by decide)).trans (by (repeat (first | ((with_reducible show upZ _ _ _ _ _ = _); refine (upo (by decide)).trans ?_) | ((with_reducible show zrZ _ _ _ = _); refine (zro (by decide)).trans ?_) | fail)); rfl)) 1).trans v61 | skip); (first | have v87 : ∀ k : Nat, k < 6 → Z' 87 k = 5 := hV | have v87 : ∀ k : Nat, k < 6 → Z' 87 k = 5 := fun k hk => (congrFun ((hF 87 (by decide)).trans (by (repeat (first | ((with_reducible show upZ _ _ _ _ _ = _); refine (upo (by decide)).trans ?_) | ((with_reducible show zrZ _ _ _ = _); refine (zro (by decide)).trans ?_) | fail)); rfl)) k).trans (v87 k hk) | skip))
         | (obtain ⟨Z', rfl, rfl, hI2⟩ := hq))
      | (intro hc; (try simp only [cmp3_c] at hc); simp only [cmpI] at hc; first | (exfalso; revert hc; decide; done) | skip))
    all_goals first
      | with_reducible rfl
      | ((with_reducible show recvG _ _); rfl)
      | trivial
      | decide
      | ((with_reducible show preT _ _ _); show _ = RT _; (repeat (first | ((with_reducible show upR _ _ _ _ = _); refine up_RT ?_ (by decide +kernel)) | ((with_reducible show zrR _ _ = _); refine zr_RT ?_ (by decide +kernel)) | exact congrArg RT (by decide) | fail)))
      | ((with_reducible show _ = RT _); (repeat (first | ((with_reducible show upR _ _ _ _ = _); refine up_RT ?_ (by decide +kernel)) | ((with_reducible show zrR _ _ = _); refine zr_RT ?_ (by decide +kernel)) | exact congrArg RT (by decide) | fail)))
      | ((with_reducible show _ = R0); refine Eq.trans (b := RT 128) ?_ RT_all; (repeat (first | ((with_reducible show upR _ _ _ _ = _); refine up_RT ?_ (by decide +kernel)) | ((with_reducible show zrR _ _ = _); refine zr_RT ?_ (by decide +kernel)) | exact congrArg RT (by decide) | fail)))
      | ((with_reducible show CI _); (repeat (first | with_reducible assumption | ((with_reducible refine cix_m ?_ ?_) <;> assumption) | ((with_reducible refine cix_b70 (by assumption) ?_ ?_ ?_) <;> decide) | ((with_reducible refine cix_b72 (by assumption) ?_ ?_ ?_) <;> decide) | ((with_reducible refine cix_b74 (by assumption) ?_ ?_ ?_) <;> decide) | ((with_reducible refine cix_b76 (by assumption) ?_ ?_ ?_) <;> decide) | ((with_reducible show CI (zrZ _ _)); refine ci_zr ?_ (by decide +kernel)) | ((with_reducible show CI (upZ _ _ _ _)); refine ci_up ?_ (fun lo hi hb => by first | (cases hb; done) | (cases hb; exact ⟨by decide, by decide⟩))) | fail)))
      | ((with_reducible show CIx _ _); first | exact cix_of (by assumption) | assumption | exact cix_zr (by assumption) (by decide +kernel))
      | exact fun k => if_pos rfl
      | (show (0 : Int) ≤ 1872; decide)
      | (show (1872 : Int) ≤ 10000; decide)
      | (show (0 : Int) ≤ 468; decide)
      | (show (468 : Int) ≤ 10000; decide)
      | (refine Exists.intro _ (And.intro rfl (And.intro (Prod.ext rfl (Prod.ext rfl ?_)) ?_)); (first | (show _ = RT _; (repeat (first | ((with_reducible show upR _ _ _ _ = _); refine up_RT ?_ (by decide +kernel)) | ((with_reducible show zrR _ _ = _); refine zr_RT ?_ (by decide +kernel)) | exact congrArg RT (by decide) | fail))) | (show _ = R0; refine Eq.trans (b := RT 128) ?_ RT_all; (repeat (first | ((with_reducible show upR _ _ _ _ = _); refine up_RT ?_ (by decide +kernel)) | ((with_reducible show zrR _ _ = _); refine zr_RT ?_ (by decide +kernel)) | exact congrArg RT (by decide) | fail))) | rfl | fail); refine And.intro (by (repeat (first | with_reducible assumption | ((with_reducible refine cix_m ?_ ?_) <;> assumption) | ((with_reducible refine cix_b70 (by assumption) ?_ ?_ ?_) <;> decide) | ((with_reducible refine cix_b72 (by assumption) ?_ ?_ ?_) <;> decide) | ((with_reducible refine cix_b74 (by assumption) ?_ ?_ ?_) <;> decide) | ((with_reducible refine cix_b76 (by assumption) ?_ ?_ ?_) <;> decide) | ((with_reducible show CI (zrZ _ _)); refine ci_zr ?_ (by decide +kernel)) | ((with_reducible show CI (upZ _ _ _ _)); refine ci_up ?_ (fun lo hi hb => by first | (cases hb; done) | (cases hb; exact ⟨by decide, by decide⟩))) | fail))) (And.intro (fun o ho => by (repeat (first | ((with_reducible show upZ _ _ _ _ _ = _); refine (upo (by omega)).trans ?_) | ((with_reducible show zrZ _ _ _ = _); refine (zro (by omega)).trans ?_) | fail)); (first | exact hFr o (by omega) | rfl)) (by exact ⟨(congrFun (hFr 1 (by decide)) 5).trans (hz 5), v61, v87⟩)))
      | rfl
      | omega
      | skip
