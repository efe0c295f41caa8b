/-! ===== constructors ===== -/
def s_X0_init : Sp := (3, 0, 1, fun as σ => match as with
    | [.inr (.inr a0), .inl a1, .inl a2] => ((a0 = 70 ∧ a1 = 36 ∧ a2 = 0) ∨ (a0 = 72 ∧ a1 = 36 ∧ a2 = 1) ∨ (a0 = 74 ∧ a1 = 36 ∧ a2 = 1) ∨ (a0 = 76 ∧ a1 = 9 ∧ a2 = 0)) ∧ σ.1 = a0 ∧ σ.2.2 = RT (bX0 a0) ∧ CIx a0 σ.2.1
    | _ => False, fun as σ r σ' => match as with
    | [.inr (.inr a0), .inl a1, .inl a2] => ∃ Z' : ZT, r = none ∧ σ' = (a0 + 1, Z', RT (eX0 a0)) ∧ CI Z'
    | _ => False)
set_option maxRecDepth 100000 in
set_option maxHeartbeats 40000000 in
theorem c_X0_init {l : Launch} {D : va_G} {cA : Nat → ClassId} : PM l D cA yX0_init cX0_init 3 none 1 21 s_X0_init := by
  refine of_X0_init (c_J9_min) ⟨rfl, rfl⟩ (c_J9_max) ⟨rfl, rfl⟩ (fun as σ hwf hao hpre => ?_)
  obtain ⟨n, Z, R⟩ := σ
  rcases as with _ | ⟨x | x | a0, _ | ⟨a1 | x | x, _ | ⟨a2 | x | x, _ | ⟨v, t⟩⟩⟩⟩ <;> first | exact (hpre : False).elim | skip
  obtain ⟨h0, hn, hR, hI⟩ := hpre
  refine ⟨Nat.le_of_ble_eq_true rfl, fun G hG => ?_⟩
  clear hao hwf
  rcases h0 with ⟨rfl, rfl, rfl⟩ | ⟨rfl, rfl, rfl⟩ | ⟨rfl, rfl, rfl⟩ | ⟨rfl, rfl, rfl⟩
  · obtain rfl : n = 70 := hn
    obtain rfl : R = RT 68 := hR
    have hI : CIx 70 Z := hI
    refine wp_run hG [] 400 _ _ _ _ ?_
    repeat' (first
      | with_reducible rfl
      | (refine And.intro ?_ ?_ <;> (try dsimp only))
      | (intro (r : Option PV) σ' hq
         first
         | (obtain ⟨rfl, rfl⟩ := hq)
         | (obtain ⟨Z', rfl, rfl, hI2, hk2⟩ := hq)
         | (obtain ⟨Z', rfl, rfl, hI2, hk2, -⟩ := hq)
         | (obtain ⟨Z', rfl, rfl, hI2⟩ := hq))
      | (intro hc; (try simp only [cmp3_c] at hc); simp only [cmpI] at hc; first | (exfalso; revert hc; decide; done) | skip))
    all_goals first
      | with_reducible rfl
      | ((with_reducible show recvG _ _); rfl)
      | trivial
      | decide
      | ((with_reducible show preT _ _ _); show _ = RT _; (repeat (first | ((with_reducible show upR _ _ _ _ = _); refine up_RT ?_ (by decide +kernel)) | ((with_reducible show zrR _ _ = _); refine zr_RT ?_ (by decide +kernel)) | exact congrArg RT (by decide) | fail)))
      | ((with_reducible show _ = RT _); (repeat (first | ((with_reducible show upR _ _ _ _ = _); refine up_RT ?_ (by decide +kernel)) | ((with_reducible show zrR _ _ = _); refine zr_RT ?_ (by decide +kernel)) | exact congrArg RT (by decide) | fail)))
      | ((with_reducible show _ = R0); refine Eq.trans (b := RT 128) ?_ RT_all; (repeat (first | ((with_reducible show upR _ _ _ _ = _); refine up_RT ?_ (by decide +kernel)) | ((with_reducible show zrR _ _ = _); refine zr_RT ?_ (by decide +kernel)) | exact congrArg RT (by decide) | fail)))
      | ((with_reducible show CI _); (repeat (first | with_reducible assumption | ((with_reducible refine cix_m ?_ ?_) <;> assumption) | ((with_reducible refine cix_b70 (by assumption) ?_ ?_ ?_) <;> decide) | ((with_reducible refine cix_b72 (by assumption) ?_ ?_ ?_) <;> decide) | ((with_reducible refine cix_b74 (by assumption) ?_ ?_ ?_) <;> decide) | ((with_reducible refine cix_b76 (by assumption) ?_ ?_ ?_) <;> decide) | ((with_reducible show CI (zrZ _ _)); refine ci_zr ?_ (by decide +kernel)) | ((with_reducible show CI (upZ _ _ _ _)); refine ci_up ?_ (fun lo hi hb => by first | (cases hb; done) | (cases hb; exact ⟨by decide, by decide⟩))) | fail)))
      | ((with_reducible show CIx _ _); first | exact cix_of (by assumption) | assumption | exact cix_zr (by assumption) (by decide +kernel))
      | exact fun k => if_pos rfl
      | (show (0 : Int) ≤ 1872; decide)
      | (show (1872 : Int) ≤ 10000; decide)
      | (show (0 : Int) ≤ 468; decide)
      | (show (468 : Int) ≤ 10000; decide)
      | (refine Exists.intro _ (And.intro rfl (And.intro (Prod.ext rfl (Prod.ext rfl ?_)) ?_)); (first | (show _ = RT _; (repeat (first | ((with_reducible show upR _ _ _ _ = _); refine up_RT ?_ (by decide +kernel)) | ((with_reducible show zrR _ _ = _); refine zr_RT ?_ (by decide +kernel)) | exact congrArg RT (by decide) | fail))) | (show _ = R0; refine Eq.trans (b := RT 128) ?_ RT_all; (repeat (first | ((with_reducible show upR _ _ _ _ = _); refine up_RT ?_ (by decide +kernel)) | ((with_reducible show zrR _ _ = _); refine zr_RT ?_ (by decide +kernel)) | exact congrArg RT (by decide) | fail))) | rfl | fail); (repeat (first | with_reducible assumption | ((with_reducible refine cix_m ?_ ?_) <;> assumption) | ((with_reducible refine cix_b70 (by assumption) ?_ ?_ ?_) <;> decide) | ((with_reducible refine cix_b72 (by assumption) ?_ ?_ ?_) <;> decide) | ((with_reducible refine cix_b74 (by assumption) ?_ ?_ ?_) <;> decide) | ((with_reducible refine cix_b76 (by assumption) ?_ ?_ ?_) <;> decide) | ((with_reducible show CI (zrZ _ _)); refine ci_zr ?_ (by decide +kernel)) | ((with_reducible show CI (upZ _ _ _ _)); refine ci_up ?_ (fun lo hi hb => by first | (cases hb; done) | (cases hb; exact ⟨by decide, by decide⟩))) | fail)))
      | rfl
      | omega
      | skip
  · obtain rfl : n = 72 := hn
    obtain rfl : R = RT 70 := hR
    have hI : CIx 72 Z := hI
    refine wp_run hG [] 400 _ _ _ _ ?_
    repeat' (first
      | with_reducible rfl
      | (refine And.intro ?_ ?_ <;> (try dsimp only))
      | (intro (r : Option PV) σ' hq
         first
         | (obtain ⟨rfl, rfl⟩ := hq)
         | (obtain ⟨Z', rfl, rfl, hI2, hk2⟩ := hq)
         | (obtain ⟨Z', rfl, rfl, hI2, hk2, -⟩ := hq)
         | (obtain ⟨Z', rfl, rfl, hI2⟩ := hq))
      | (intro hc; (try simp only [cmp3_c] at hc); simp only [cmpI] at hc; first | (exfalso; revert hc; decide; done) | skip))
    all_goals first
      | with_reducible rfl
      | ((with_reducible show recvG _ _); rfl)
      | trivial
      | decide
      | ((with_reducible show preT _ _ _); show _ = RT _; (repeat (first | ((with_reducible show upR _ _ _ _ = _); refine up_RT ?_ (by decide +kernel)) | ((with_reducible show zrR _ _ = _); refine zr_RT ?_ (by decide +kernel)) | exact congrArg RT (by decide) | fail)))
      | ((with_reducible show _ = RT _); (repeat (first | ((with_reducible show upR _ _ _ _ = _); refine up_RT ?_ (by decide +kernel)) | ((with_reducible show zrR _ _ = _); refine zr_RT ?_ (by decide +kernel)) | exact congrArg RT (by decide) | fail)))
      | ((with_reducible show _ = R0); refine Eq.trans (b := RT 128) ?_ RT_all; (repeat (first | ((with_reducible show upR _ _ _ _ = _); refine up_RT ?_ (by decide +kernel)) | ((with_reducible show zrR _ _ = _); refine zr_RT ?_ (by decide +kernel)) | exact congrArg RT (by decide) | fail)))
      | ((with_reducible show CI _); (repeat (first | with_reducible assumption | ((with_reducible refine cix_m ?_ ?_) <;> assumption) | ((with_reducible refine cix_b70 (by assumption) ?_ ?_ ?_) <;> decide) | ((with_reducible refine cix_b72 (by assumption) ?_ ?_ ?_) <;> decide) | ((with_reducible refine cix_b74 (by assumption) ?_ ?_ ?_) <;> decide) | ((with_reducible refine cix_b76 (by assumption) ?_ ?_ ?_) <;> decide) | ((with_reducible show CI (zrZ _ _)); refine ci_zr ?_ (by decide +kernel)) | ((with_reducible show CI (upZ _ _ _ _)); refine ci_up ?_ (fun lo hi hb => by first | (cases hb; done) | (cases hb; exact ⟨by decide, by decide⟩))) | fail)))
      | ((with_reducible show CIx _ _); first | exact cix_of (by assumption) | assumption | exact cix_zr (by assumption) (by decide +kernel))
      | exact fun k => if_pos rfl
      | (show (0 : Int) ≤ 1872; decide)
      | (show (1872 : Int) ≤ 10000; decide)
      | (show (0 : Int) ≤ 468; decide)
      | (show (468 : Int) ≤ 10000; decide)
      | (refine Exists.intro _ (And.intro rfl (And.intro (Prod.ext rfl (Prod.ext rfl ?_)) ?_)); (first | (show _ = RT _; (repeat (first | ((with_reducible show upR _ _ _ _ = _); refine up_RT ?_ (by decide +kernel)) | ((with_reducible show zrR _ _ = _); refine zr_RT ?_ (by decide +kernel)) | exact congrArg RT (by decide) | fail))) | (show _ = R0; refine Eq.trans (b := RT 128) ?_ RT_all; (repeat (first | ((with_reducible show upR _ _ _ _ = _); refine up_RT ?_ (by decide +kernel)) | ((with_reducible show zrR _ _ = _); refine zr_RT ?_ (by decide +kernel)) | exact congrArg RT (by decide) | fail))) | rfl | fail); (repeat (first | with_reducible assumption | ((with_reducible refine cix_m ?_ ?_) <;> assumption) | ((with_reducible refine cix_b70 (by assumption) ?_ ?_ ?_) <;> decide) | ((with_reducible refine cix_b72 (by assumption) ?_ ?_ ?_) <;> decide) | ((with_reducible refine cix_b74 (by assumption) ?_ ?_ ?_) <;> decide) | ((with_reducible refine cix_b76 (by assumption) ?_ ?_ ?_) <;> decide) | ((with_reducible show CI (zrZ _ _)); refine ci_zr ?_ (by decide +kernel)) | ((with_reducible show CI (upZ _ _ _ _)); refine ci_up ?_ (fun lo hi hb => by first | (cases hb; done) | (cases hb; exact ⟨by decide, by decide⟩))) | fail)))
      | rfl
      | omega
      | skip
  · obtain rfl : n = 74 := hn
    obtain rfl : R = RT 72 := hR
    have hI : CIx 74 Z := hI
    refine wp_run hG [] 400 _ _ _ _ ?_
    repeat' (first
      | with_reducible rfl
      | (refine And.intro ?_ ?_ <;> (try dsimp only))
      | (intro (r : Option PV) σ' hq
         first
         | (obtain ⟨rfl, rfl⟩ := hq)
         | (obtain ⟨Z', rfl, rfl, hI2, hk2⟩ := hq)
         | (obtain ⟨Z', rfl, rfl, hI2, hk2, -⟩ := hq)
         | (obtain ⟨Z', rfl, rfl, hI2⟩ := hq))
      | (intro hc; (try simp only [cmp3_c] at hc); simp only [cmpI] at hc; first | (exfalso; revert hc; decide; done) | skip))
    all_goals first
      | with_reducible rfl
      | ((with_reducible show recvG _ _); rfl)
      | trivial
      | decide
      | ((with_reducible show preT _ _ _); show _ = RT _; (repeat (first | ((with_reducible show upR _ _ _ _ = _); refine up_RT ?_ (by decide +kernel)) | ((with_reducible show zrR _ _ = _); refine zr_RT ?_ (by decide +kernel)) | exact congrArg RT (by decide) | fail)))
      | ((with_reducible show _ = RT _); (repeat (first | ((with_reducible show upR _ _ _ _ = _); refine up_RT ?_ (by decide +kernel)) | ((with_reducible show zrR _ _ = _); refine zr_RT ?_ (by decide +kernel)) | exact congrArg RT (by decide) | fail)))
      | ((with_reducible show _ = R0); refine Eq.trans (b := RT 128) ?_ RT_all; (repeat (first | ((with_reducible show upR _ _ _ _ = _); refine up_RT ?_ (by decide +kernel)) | ((with_reducible show zrR _ _ = _); refine zr_RT ?_ (by decide +kernel)) | exact congrArg RT (by decide) | fail)))
      | ((with_reducible show CI _); (repeat (first | with_reducible assumption | ((with_reducible refine cix_m ?_ ?_) <;> assumption) | ((with_reducible refine cix_b70 (by assumption) ?_ ?_ ?_) <;> decide) | ((with_reducible refine cix_b72 (by assumption) ?_ ?_ ?_) <;> decide) | ((with_reducible refine cix_b74 (by assumption) ?_ ?_ ?_) <;> decide) | ((with_reducible refine cix_b76 (by assumption) ?_ ?_ ?_) <;> decide) | ((with_reducible show CI (zrZ _ _)); refine ci_zr ?_ (by decide +kernel)) | ((with_reducible show CI (upZ _ _ _ _)); refine ci_up ?_ (fun lo hi hb => by first | (cases hb; done) | (cases hb; exact ⟨by decide, by decide⟩))) | fail)))
      | ((with_reducible show CIx _ _); first | exact cix_of (by assumption) | assumption | exact cix_zr (by assumption) (by decide +kernel))
      | exact fun k => if_pos rfl
      | (show (0 : Int) ≤ 1872; decide)
      | (show (1872 : Int) ≤ 10000; decide)
      | (show (0 : Int) ≤ 468; decide)
      | (show (468 : Int) ≤ 10000; decide)
      | (refine Exists.intro _ (And.intro rfl (And.intro (Prod.ext rfl (Prod.ext rfl ?_)) ?_)); (first | (show _ = RT _; (repeat (first | ((with_reducible show upR _ _ _ _ = _); refine up_RT ?_ (by decide +kernel)) | ((with_reducible show zrR _ _ = _); refine zr_RT ?_ (by decide +kernel)) | exact congrArg RT (by decide) | fail))) | (show _ = R0; refine Eq.trans (b := RT 128) ?_ RT_all; (repeat (first | ((with_reducible show upR _ _ _ _ = _); refine up_RT ?_ (by decide +kernel)) | ((with_reducible show zrR _ _ = _); refine zr_RT ?_ (by decide +kernel)) | exact congrArg RT (by decide) | fail))) | rfl | fail); (repeat (first | with_reducible assumption | ((with_reducible refine cix_m ?_ ?_) <;> assumption) | ((with_reducible refine cix_b70 (by assumption) ?_ ?_ ?_) <;> decide) | ((with_reducible refine cix_b72 (by assumption) ?_ ?_ ?_) <;> decide) | ((with_reducible refine cix_b74 (by assumption) ?_ ?_ ?_) <;> decide) | ((with_reducible refine cix_b76 (by assumption) ?_ ?_ ?_) <;> decide) | ((with_reducible show CI (zrZ _ _)); refine ci_zr ?_ (by decide +kernel)) | ((with_reducible show CI (upZ _ _ _ _)); refine ci_up ?_ (fun lo hi hb => by first | (cases hb; done) | (cases hb; exact ⟨by decide, by decide⟩))) | fail)))
      | rfl
      | omega
      | skip
  · obtain rfl : n = 76 := hn
    obtain rfl : R = RT 74 := hR
    have hI : CIx 76 Z := hI
    refine wp_run hG [] 400 _ _ _ _ ?_
    repeat' (first
      | with_reducible rfl
      | (refine And.intro ?_ ?_ <;> (try dsimp only))
      | (intro (r : Option PV) σ' hq
         first
         | (obtain ⟨rfl, rfl⟩ := hq)
         | (obtain ⟨Z', rfl, rfl, hI2, hk2⟩ := hq)
         | (obtain ⟨Z', rfl, rfl, hI2, hk2, -⟩ := hq)
         | (obtain ⟨Z', rfl, rfl, hI2⟩ := hq))
      | (intro hc; (try simp only [cmp3_c] at hc); simp only [cmpI] at hc; first | (exfalso; revert hc; decide; done) | skip))
    all_goals first
      | with_reducible rfl
      | ((with_reducible show recvG _ _); rfl)
      | trivial
      | decide
      | ((with_reducible show preT _ _ _); show _ = RT _; (repeat (first | ((with_reducible show upR _ _ _ _ = _); refine up_RT ?_ (by decide +kernel)) | ((with_reducible show zrR _ _ = _); refine zr_RT ?_ (by decide +kernel)) | exact congrArg RT (by decide) | fail)))
      | ((with_reducible show _ = RT _); (repeat (first | ((with_reducible show upR _ _ _ _ = _); refine up_RT ?_ (by decide +kernel)) | ((with_reducible show zrR _ _ = _); refine zr_RT ?_ (by decide +kernel)) | exact congrArg RT (by decide) | fail)))
      | ((with_reducible show _ = R0); refine Eq.trans (b := RT 128) ?_ RT_all; (repeat (first | ((with_reducible show upR _ _ _ _ = _); refine up_RT ?_ (by decide +kernel)) | ((with_reducible show zrR _ _ = _); refine zr_RT ?_ (by decide +kernel)) | exact congrArg RT (by decide) | fail)))
      | ((with_reducible show CI _); (repeat (first | with_reducible assumption | ((with_reducible refine cix_m ?_ ?_) <;> assumption) | ((with_reducible refine cix_b70 (by assumption) ?_ ?_ ?_) <;> decide) | ((with_reducible refine cix_b72 (by assumption) ?_ ?_ ?_) <;> decide) | ((with_reducible refine cix_b74 (by assumption) ?_ ?_ ?_) <;> decide) | ((with_reducible refine cix_b76 (by assumption) ?_ ?_ ?_) <;> decide) | ((with_reducible show CI (zrZ _ _)); refine ci_zr ?_ (by decide +kernel)) | ((with_reducible show CI (upZ _ _ _ _)); refine ci_up ?_ (fun lo hi hb => by first | (cases hb; done) | (cases hb; exact ⟨by decide, by decide⟩))) | fail)))
      | ((with_reducible show CIx _ _); first | exact cix_of (by assumption) | assumption | exact cix_zr (by assumption) (by decide +kernel))
      | exact fun k => if_pos rfl
      | (show (0 : Int) ≤ 1872; decide)
      | (show (1872 : Int) ≤ 10000; decide)
      | (show (0 : Int) ≤ 468; decide)
      | (show (468 : Int) ≤ 10000; decide)
      | (refine Exists.intro _ (And.intro rfl (And.intro (Prod.ext rfl (Prod.ext rfl ?_)) ?_)); (first | (show _ = RT _; (repeat (first | ((with_reducible show upR _ _ _ _ = _); refine up_RT ?_ (by decide +kernel)) | ((with_reducible show zrR _ _ = _); refine zr_RT ?_ (by decide +kernel)) | exact congrArg RT (by decide) | fail))) | (show _ = R0; refine Eq.trans (b := RT 128) ?_ RT_all; (repeat (first | ((with_reducible show upR _ _ _ _ = _); refine up_RT ?_ (by decide +kernel)) | ((with_reducible show zrR _ _ = _); refine zr_RT ?_ (by decide +kernel)) | exact congrArg RT (by decide) | fail))) | rfl | fail); (repeat (first | with_reducible assumption | ((with_reducible refine cix_m ?_ ?_) <;> assumption) | ((with_reducible refine cix_b70 (by assumption) ?_ ?_ ?_) <;> decide) | ((with_reducible refine cix_b72 (by assumption) ?_ ?_ ?_) <;> decide) | ((with_reducible refine cix_b74 (by assumption) ?_ ?_ ?_) <;> decide) | ((with_reducible refine cix_b76 (by assumption) ?_ ?_ ?_) <;> decide) | ((with_reducible show CI (zrZ _ _)); refine ci_zr ?_ (by decide +kernel)) | ((with_reducible show CI (upZ _ _ _ _)); refine ci_up ?_ (fun lo hi hb => by first | (cases hb; done) | (cases hb; exact ⟨by decide, by decide⟩))) | fail)))
      | rfl
      | omega
      | skip
