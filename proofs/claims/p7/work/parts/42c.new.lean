/-! ===== constructors ===== -/
def s_X5_init : Sp := (1, 5, 9, fun as σ => match as with
    | [.inr (.inr a0)] => ((a0 = 8) ∨ (a0 = 19) ∨ (a0 = 37) ∨ (a0 = 54)) ∧ σ.1 = a0 ∧ σ.2.2 = RT (bX5 a0) ∧ CI σ.2.1
    | _ => False, fun as σ r σ' => match as with
    | [.inr (.inr a0)] => ∃ Z' : ZT, r = none ∧ σ' = (a0 + 9, Z', RT (eX5 a0)) ∧ CI Z'
    | _ => False)
set_option maxRecDepth 100000 in
set_option maxHeartbeats 40000000 in
theorem c_X5_init {l : Launch} {D : va_G} {cA : Nat → ClassId} : PM l D cA yX5_init cX5_init 1 none 1 21 s_X5_init := by
  refine of_X5_init (c_X5_clearT) ⟨rfl, rfl⟩ (fun as σ hwf hao hpre => ?_)
  obtain ⟨n, Z, R⟩ := σ
  rcases as with _ | ⟨x | x | a0, _ | ⟨v, t⟩⟩ <;> first | exact (hpre : False).elim | skip
  obtain ⟨h0, hn, hR, hI⟩ := hpre
  refine ⟨Nat.le_of_ble_eq_true rfl, fun G hG => ?_⟩
  clear hao hwf
  rcases h0 with rfl | rfl | rfl | rfl
  · obtain rfl : n = 8 := hn
    obtain rfl : R = RT 5 := hR
    refine wp_run hG [] 400 _ _ _ _ ?_
    repeat' (first
      | with_reducible rfl
      | (refine And.intro ?_ ?_ <;> (try dsimp only))
      | (intro (r : Option PV) σ' hq
         first
         | (obtain ⟨rfl, rfl⟩ := hq)
         | (obtain ⟨Z', rfl, rfl, hI2, hk2⟩ := hq)
         | (obtain ⟨Z', rfl, rfl, hI2, hk2, -⟩ := hq)
         | (obtain ⟨Z', rfl, rfl, hI2⟩ := hq))
      | (intro hc; (try simp only [cmp3_c] at hc); simp only [cmpI] at hc; first | (exfalso; revert hc; decide; done) | skip))
    all_goals first
      | with_reducible rfl
      | ((with_reducible show recvG _ _); rfl)
      | trivial
      | decide
      | ((with_reducible show preT _ _ _); show _ = RT _; (repeat (first | ((with_reducible show upR _ _ _ _ = _); refine up_RT ?_ (by decide +kernel)) | ((with_reducible show zrR _ _ = _); refine zr_RT ?_ (by decide +kernel)) | exact congrArg RT (by decide) | fail)))
      | ((with_reducible show _ = RT _); (repeat (first | ((with_reducible show upR _ _ _ _ = _); refine up_RT ?_ (by decide +kernel)) | ((with_reducible show zrR _ _ = _); refine zr_RT ?_ (by decide +kernel)) | exact congrArg RT (by decide) | fail)))
      | ((with_reducible show _ = R0); refine Eq.trans (b := RT 128) ?_ RT_all; (repeat (first | ((with_reducible show upR _ _ _ _ = _); refine up_RT ?_ (by decide +kernel)) | ((with_reducible show zrR _ _ = _); refine zr_RT ?_ (by decide +kernel)) | exact congrArg RT (by decide) | fail)))
      | ((with_reducible show CI _); (repeat (first | with_reducible assumption | ((with_reducible refine cix_m ?_ ?_) <;> assumption) | ((with_reducible refine cix_b70 (by assumption) ?_ ?_ ?_) <;> decide) | ((with_reducible refine cix_b72 (by assumption) ?_ ?_ ?_) <;> decide) | ((with_reducible refine cix_b74 (by assumption) ?_ ?_ ?_) <;> decide) | ((with_reducible refine cix_b76 (by assumption) ?_ ?_ ?_) <;> decide) | ((with_reducible show CI (zrZ _ _)); refine ci_zr ?_ (by decide +kernel)) | ((with_reducible show CI (upZ _ _ _ _)); refine ci_up ?_ (fun lo hi hb => by first | (cases hb; done) | (cases hb; exact ⟨by decide, by decide⟩))) | fail)))
      | ((with_reducible show CIx _ _); first | exact cix_of (by assumption) | assumption | exact cix_zr (by assumption) (by decide +kernel))
      | exact fun k => if_pos rfl
      | (show (0 : Int) ≤ 1872; decide)
      | (show (1872 : Int) ≤ 10000; decide)
      | (show (0 : Int) ≤ 468; decide)
      | (show (468 : Int) ≤ 10000; decide)
      | (refine Exists.intro _ (And.intro rfl (And.intro (Prod.ext rfl (Prod.ext rfl ?_)) ?_)); (first | (show _ = RT _; (repeat (first | ((with_reducible show upR _ _ _ _ = _); refine up_RT ?_ (by decide +kernel)) | ((with_reducible show zrR _ _ = _); refine zr_RT ?_ (by decide +kernel)) | exact congrArg RT (by decide) | fail))) | (show _ = R0; refine Eq.trans (b := RT 128) ?_ RT_all; (repeat (first | ((with_reducible show upR _ _ _ _ = _); refine up_RT ?_ (by decide +kernel)) | ((with_reducible show zrR _ _ = _); refine zr_RT ?_ (by decide +kernel)) | exact congrArg RT (by decide) | fail))) | rfl | fail); (repeat (first | with_reducible assumption | ((with_reducible refine cix_m ?_ ?_) <;> assumption) | ((with_reducible refine cix_b70 (by assumption) ?_ ?_ ?_) <;> decide) | ((with_reducible refine cix_b72 (by assumption) ?_ ?_ ?_) <;> decide) | ((with_reducible refine cix_b74 (by assumption) ?_ ?_ ?_) <;> decide) | ((with_reducible refine cix_b76 (by assumption) ?_ ?_ ?_) <;> decide) | ((with_reducible show CI (zrZ _ _)); refine ci_zr ?_ (by decide +kernel)) | ((with_reducible show CI (upZ _ _ _ _)); refine ci_up ?_ (fun lo hi hb => by first | (cases hb; done) | (cases hb; exact ⟨by decide, by decide⟩))) | fail)))
      | rfl
      | omega
      | skip
  · obtain rfl : n = 19 := hn
    obtain rfl : R = RT 16 := hR
    refine wp_run hG [] 400 _ _ _ _ ?_
    repeat' (first
      | with_reducible rfl
      | (refine And.intro ?_ ?_ <;> (try dsimp only))
      | (intro (r : Option PV) σ' hq
         first
         | (obtain ⟨rfl, rfl⟩ := hq)
         | (obtain ⟨Z', rfl, rfl, hI2, hk2⟩ := hq)
         | (obtain ⟨Z', rfl, rfl, hI2, hk2, -⟩ := hq)
         | (obtain ⟨Z', rfl, rfl, hI2⟩ := hq))
      | (intro hc; (try simp only [cmp3_c] at hc); simp only [cmpI] at hc; first | (exfalso; revert hc; decide; done) | skip))
    all_goals first
      | with_reducible rfl
      | ((with_reducible show recvG _ _); rfl)
      | trivial
      | decide
      | ((with_reducible show preT _ _ _); show _ = RT _; (repeat (first | ((with_reducible show upR _ _ _ _ = _); refine up_RT ?_ (by decide +kernel)) | ((with_reducible show zrR _ _ = _); refine zr_RT ?_ (by decide +kernel)) | exact congrArg RT (by decide) | fail)))
      | ((with_reducible show _ = RT _); (repeat (first | ((with_reducible show upR _ _ _ _ = _); refine up_RT ?_ (by decide +kernel)) | ((with_reducible show zrR _ _ = _); refine zr_RT ?_ (by decide +kernel)) | exact congrArg RT (by decide) | fail)))
      | ((with_reducible show _ = R0); refine Eq.trans (b := RT 128) ?_ RT_all; (repeat (first | ((with_reducible show upR _ _ _ _ = _); refine up_RT ?_ (by decide +kernel)) | ((with_reducible show zrR _ _ = _); refine zr_RT ?_ (by decide +kernel)) | exact congrArg RT (by decide) | fail)))
      | ((with_reducible show CI _); (repeat (first | with_reducible assumption | ((with_reducible refine cix_m ?_ ?_) <;> assumption) | ((with_reducible refine cix_b70 (by assumption) ?_ ?_ ?_) <;> decide) | ((with_reducible refine cix_b72 (by assumption) ?_ ?_ ?_) <;> decide) | ((with_reducible refine cix_b74 (by assumption) ?_ ?_ ?_) <;> decide) | ((with_reducible refine cix_b76 (by assumption) ?_ ?_ ?_) <;> decide) | ((with_reducible show CI (zrZ _ _)); refine ci_zr ?_ (by decide +kernel)) | ((with_reducible show CI (upZ _ _ _ _)); refine ci_up ?_ (fun lo hi hb => by first | (cases hb; done) | (cases hb; exact ⟨by decide, by decide⟩))) | fail)))
      | ((with_reducible show CIx _ _); first | exact cix_of (by assumption) | assumption | exact cix_zr (by assumption) (by decide +kernel))
      | exact fun k => if_pos rfl
      | (show (0 : Int) ≤ 1872; decide)
      | (show (1872 : Int) ≤ 10000; decide)
      | (show (0 : Int) ≤ 468; decide)
      | (show (468 : Int) ≤ 10000; decide)
      | (refine Exists.intro _ (And.intro rfl (And.intro (Prod.ext rfl (Prod.ext rfl ?_)) ?_)); (first | (show _ = RT _; (repeat (first | ((with_reducible show upR _ _ _ _ = _); refine up_RT ?_ (by decide +kernel)) | ((with_reducible show zrR _ _ = _); refine zr_RT ?_ (by decide +kernel)) | exact congrArg RT (by decide) | fail))) | (show _ = R0; refine Eq.trans (b := RT 128) ?_ RT_all; (repeat (first | ((with_reducible show upR _ _ _ _ = _); refine up_RT ?_ (by decide +kernel)) | ((with_reducible show zrR _ _ = _); refine zr_RT ?_ (by decide +kernel)) | exact congrArg RT (by decide) | fail))) | rfl | fail); (repeat (first | with_reducible assumption | ((with_reducible refine cix_m ?_ ?_) <;> assumption) | ((with_reducible refine cix_b70 (by assumption) ?_ ?_ ?_) <;> decide) | ((with_reducible refine cix_b72 (by assumption) ?_ ?_ ?_) <;> decide) | ((with_reducible refine cix_b74 (by assumption) ?_ ?_ ?_) <;> decide) | ((with_reducible refine cix_b76 (by assumption) ?_ ?_ ?_) <;> decide) | ((with_reducible show CI (zrZ _ _)); refine ci_zr ?_ (by decide +kernel)) | ((with_reducible show CI (upZ _ _ _ _)); refine ci_up ?_ (fun lo hi hb => by first | (cases hb; done) | (cases hb; exact ⟨by decide, by decide⟩))) | fail)))
      | rfl
      | omega
      | skip
  · obtain rfl : n = 37 := hn
    obtain rfl : R = RT 33 := hR
    refine wp_run hG [] 400 _ _ _ _ ?_
    repeat' (first
      | with_reducible rfl
      | (refine And.intro ?_ ?_ <;> (try dsimp only))
      | (intro (r : Option PV) σ' hq
         first
         | (obtain ⟨rfl, rfl⟩ := hq)
         | (obtain ⟨Z', rfl, rfl, hI2, hk2⟩ := hq)
         | (obtain ⟨Z', rfl, rfl, hI2, hk2, -⟩ := hq)
         | (obtain ⟨Z', rfl, rfl, hI2⟩ := hq))
      | (intro hc; (try simp only [cmp3_c] at hc); simp only [cmpI] at hc; first | (exfalso; revert hc; decide; done) | skip))
    all_goals first
      | with_reducible rfl
      | ((with_reducible show recvG _ _); rfl)
      | trivial
      | decide
      | ((with_reducible show preT _ _ _); show _ = RT _; (repeat (first | ((with_reducible show upR _ _ _ _ = _); refine up_RT ?_ (by decide +kernel)) | ((with_reducible show zrR _ _ = _); refine zr_RT ?_ (by decide +kernel)) | exact congrArg RT (by decide) | fail)))
      | ((with_reducible show _ = RT _); (repeat (first | ((with_reducible show upR _ _ _ _ = _); refine up_RT ?_ (by decide +kernel)) | ((with_reducible show zrR _ _ = _); refine zr_RT ?_ (by decide +kernel)) | exact congrArg RT (by decide) | fail)))
      | ((with_reducible show _ = R0); refine Eq.trans (b := RT 128) ?_ RT_all; (repeat (first | ((with_reducible show upR _ _ _ _ = _); refine up_RT ?_ (by decide +kernel)) | ((with_reducible show zrR _ _ = _); refine zr_RT ?_ (by decide +kernel)) | exact congrArg RT (by decide) | fail)))
      | ((with_reducible show CI _); (repeat (first | with_reducible assumption | ((with_reducible refine cix_m ?_ ?_) <;> assumption) | ((with_reducible refine cix_b70 (by assumption) ?_ ?_ ?_) <;> decide) | ((with_reducible refine cix_b72 (by assumption) ?_ ?_ ?_) <;> decide) | ((with_reducible refine cix_b74 (by assumption) ?_ ?_ ?_) <;> decide) | ((with_reducible refine cix_b76 (by assumption) ?_ ?_ ?_) <;> decide) | ((with_reducible show CI (zrZ _ _)); refine ci_zr ?_ (by decide +kernel)) | ((with_reducible show CI (upZ _ _ _ _)); refine ci_up ?_ (fun lo hi hb => by first | (cases hb; done) | (cases hb; exact ⟨by decide, by decide⟩))) | fail)))
      | ((with_reducible show CIx _ _); first | exact cix_of (by assumption) | assumption | exact cix_zr (by assumption) (by decide +kernel))
      | exact fun k => if_pos rfl
      | (show (0 : Int) ≤ 1872; decide)
      | (show (1872 : Int) ≤ 10000; decide)
      | (show (0 : Int) ≤ 468; decide)
      | (show (468 : Int) ≤ 10000; decide)
      | (refine Exists.intro _ (And.intro rfl (And.intro (Prod.ext rfl (Prod.ext rfl ?_)) ?_)); (first | (show _ = RT _; (repeat (first | ((with_reducible show upR _ _ _ _ = _); refine up_RT ?_ (by decide +kernel)) | ((with_reducible show zrR _ _ = _); refine zr_RT ?_ (by decide +kernel)) | exact congrArg RT (by decide) | fail))) | (show _ = R0; refine Eq.trans (b := RT 128) ?_ RT_all; (repeat (first | ((with_reducible show upR _ _ _ _ = _); refine up_RT ?_ (by decide +kernel)) | ((with_reducible show zrR _ _ = _); refine zr_RT ?_ (by decide +kernel)) | exact congrArg RT (by decide) | fail))) | rfl | fail); (repeat (first | with_reducible assumption | ((with_reducible refine cix_m ?_ ?_) <;> assumption) | ((with_reducible refine cix_b70 (by assumption) ?_ ?_ ?_) <;> decide) | ((with_reducible refine cix_b72 (by assumption) ?_ ?_ ?_) <;> decide) | ((with_reducible refine cix_b74 (by assumption) ?_ ?_ ?_) <;> decide) | ((with_reducible refine cix_b76 (by assumption) ?_ ?_ ?_) <;> decide) | ((with_reducible show CI (zrZ _ _)); refine ci_zr ?_ (by decide +kernel)) | ((with_reducible show CI (upZ _ _ _ _)); refine ci_up ?_ (fun lo hi hb => by first | (cases hb; done) | (cases hb; exact ⟨by decide, by decide⟩))) | fail)))
      | rfl
      | omega
      | skip
  · obtain rfl : n = 54 := hn
    obtain rfl : R = RT 50 := hR
    refine wp_run hG [] 400 _ _ _ _ ?_
    repeat' (first
      | with_reducible rfl
      | (refine And.intro ?_ ?_ <;> (try dsimp only))
      | (intro (r : Option PV) σ' hq
         first
         | (obtain ⟨rfl, rfl⟩ := hq)
         | (obtain ⟨Z', rfl, rfl, hI2, hk2⟩ := hq)
         | (obtain ⟨Z', rfl, rfl, hI2, hk2, -⟩ := hq)
         | (obtain ⟨Z', rfl, rfl, hI2⟩ := hq))
      | (intro hc; (try simp only [cmp3_c] at hc); simp only [cmpI] at hc; first | (exfalso; revert hc; decide; done) | skip))
    all_goals first
      | with_reducible rfl
      | ((with_reducible show recvG _ _); rfl)
      | trivial
      | decide
      | ((with_reducible show preT _ _ _); show _ = RT _; (repeat (first | ((with_reducible show upR _ _ _ _ = _); refine up_RT ?_ (by decide +kernel)) | ((with_reducible show zrR _ _ = _); refine zr_RT ?_ (by decide +kernel)) | exact congrArg RT (by decide) | fail)))
      | ((with_reducible show _ = RT _); (repeat (first | ((with_reducible show upR _ _ _ _ = _); refine up_RT ?_ (by decide +kernel)) | ((with_reducible show zrR _ _ = _); refine zr_RT ?_ (by decide +kernel)) | exact congrArg RT (by decide) | fail)))
      | ((with_reducible show _ = R0); refine Eq.trans (b := RT 128) ?_ RT_all; (repeat (first | ((with_reducible show upR _ _ _ _ = _); refine up_RT ?_ (by decide +kernel)) | ((with_reducible show zrR _ _ = _); refine zr_RT ?_ (by decide +kernel)) | exact congrArg RT (by decide) | fail)))
      | ((with_reducible show CI _); (repeat (first | with_reducible assumption | ((with_reducible refine cix_m ?_ ?_) <;> assumption) | ((with_reducible refine cix_b70 (by assumption) ?_ ?_ ?_) <;> decide) | ((with_reducible refine cix_b72 (by assumption) ?_ ?_ ?_) <;> decide) | ((with_reducible refine cix_b74 (by assumption) ?_ ?_ ?_) <;> decide) | ((with_reducible refine cix_b76 (by assumption) ?_ ?_ ?_) <;> decide) | ((with_reducible show CI (zrZ _ _)); refine ci_zr ?_ (by decide +kernel)) | ((with_reducible show CI (upZ _ _ _ _)); refine ci_up ?_ (fun lo hi hb => by first | (cases hb; done) | (cases hb; exact ⟨by decide, by decide⟩))) | fail)))
      | ((with_reducible show CIx _ _); first | exact cix_of (by assumption) | assumption | exact cix_zr (by assumption) (by decide +kernel))
      | exact fun k => if_pos rfl
      | (show (0 : Int) ≤ 1872; decide)
      | (show (1872 : Int) ≤ 10000; decide)
      | (show (0 : Int) ≤ 468; decide)
      | (show (468 : Int) ≤ 10000; decide)
      | (refine Exists.intro _ (And.intro rfl (And.intro (Prod.ext rfl (Prod.ext rfl ?_)) ?_)); (first | (show _ = RT _; (repeat (first | ((with_reducible show upR _ _ _ _ = _); refine up_RT ?_ (by decide +kernel)) | ((with_reducible show zrR _ _ = _); refine zr_RT ?_ (by decide +kernel)) | exact congrArg RT (by decide) | fail))) | (show _ = R0; refine Eq.trans (b := RT 128) ?_ RT_all; (repeat (first | ((with_reducible show upR _ _ _ _ = _); refine up_RT ?_ (by decide +kernel)) | ((with_reducible show zrR _ _ = _); refine zr_RT ?_ (by decide +kernel)) | exact congrArg RT (by decide) | fail))) | rfl | fail); (repeat (first | with_reducible assumption | ((with_reducible refine cix_m ?_ ?_) <;> assumption) | ((with_reducible refine cix_b70 (by assumption) ?_ ?_ ?_) <;> decide) | ((with_reducible refine cix_b72 (by assumption) ?_ ?_ ?_) <;> decide) | ((with_reducible refine cix_b74 (by assumption) ?_ ?_ ?_) <;> decide) | ((with_reducible refine cix_b76 (by assumption) ?_ ?_ ?_) <;> decide) | ((with_reducible show CI (zrZ _ _)); refine ci_zr ?_ (by decide +kernel)) | ((with_reducible show CI (upZ _ _ _ _)); refine ci_up ?_ (fun lo hi hb => by first | (cases hb; done) | (cases hb; exact ⟨by decide, by decide⟩))) | fail)))
      | rfl
      | omega
      | skip
