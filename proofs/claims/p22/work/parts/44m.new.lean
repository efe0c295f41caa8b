/-! ===== constructors: first values ===== -/
theorem upo {Z : ZT} {o k p : Nat} {a : Int} (h : p ≠ o) : upZ Z o k a p = Z p := funext fun q => up_ne h
theorem zro {Z : ZT} {o p : Nat} (h : p ≠ o) : zrZ Z o p = Z p := funext fun q => if_neg h
def s_X5_initG : Sp := (1, 5, 9, fun as σ => match as with
    | [.inr (.inr a0)] => ((a0 = 8) ∨ (a0 = 19) ∨ (a0 = 37) ∨ (a0 = 54)) ∧ σ.1 = a0 ∧ σ.2.2 = RT (bX5 a0) ∧ CI σ.2.1
    | _ => False, fun as σ r σ' => match as with
    | [.inr (.inr a0)] => ∃ Z' : ZT, r = none ∧ σ' = (a0 + 9, Z', RT (eX5 a0)) ∧ CI Z' ∧ (∀ o, o < a0 → Z' o = σ.2.1 o) ∧ (a0 = 19 → FV19 Z')
    | _ => False)
set_option maxRecDepth 100000 in
set_option maxHeartbeats 40000000 in
theorem c_X5_initG {l : Launch} {D : va_G} {cA : Nat → ClassId} : PM l D cA yX5_init cX5_init 1 none 1 21 s_X5_initG := by
  refine of_X5_init (c_X5_clearTG) ⟨rfl, rfl⟩ (fun as σ hwf hao hpre => ?_)
  obtain ⟨n, Z, R⟩ := σ
  rcases as with _ | ⟨x | x | a0, _ | ⟨v, t⟩⟩ <;> first | exact (hpre : False).elim | skip
  obtain ⟨h0, hn, hR, hI⟩ := hpre
  refine ⟨Nat.le_of_ble_eq_true rfl, fun G hG => ?_⟩
  clear hao hwf
  rcases h0 with rfl | rfl | rfl | rfl
  · obtain rfl : n = 8 := hn
    obtain rfl : R = RT 5 := hR
    have hFr : ∀ o, o < 9 → Z o = Z o := fun _ _ => rfl
    refine wp_run hG [] 400 _ _ _ _ ?_
    repeat' (first
      | with_reducible rfl
      | (refine And.intro ?_ ?_ <;> (try dsimp only))
      | (intro (r : Option PV) σ' hq
         first
         | (obtain ⟨rfl, rfl⟩ := hq)
         | (obtain ⟨Z', rfl, rfl, hI2, hk2, hP⟩ := hq; (try replace hP : _ ∧ _ := hP); (try dsimp only at hk2); (try dsimp only at hP); have hF := kp_loG (b := 8) hk2 (by rfl) (by decide); (try dsimp only at hF); (try have hFr : ∀ o, o < 8 → Z' o = Z o := fun o ho => (hF o (by omega)).trans (by (repeat (first | ((with_reducible show upZ _ _ _ _ _ = _); refine (upo (by omega)).trans ?_) | ((with_reducible show zrZ _ _ _ = _); refine (zro (by omega)).trans ?_) | fail)); (first | exact hFr o (by omega) | rfl))))
         | (obtain ⟨Z', rfl, rfl, hI2, hF, hV⟩ := hq; (try dsimp only at hF hV); (try have hFr : ∀ o, o < 8 → Z' o = Z o := fun o ho => (hF o (by omega)).trans (by (repeat (first | ((with_reducible show upZ _ _ _ _ _ = _); refine (upo (by omega)).trans ?_) | ((with_reducible show zrZ _ _ _ = _); refine (zro (by omega)).trans ?_) | fail)); (first | exact hFr o (by omega) | rfl))))
         | (obtain ⟨Z', rfl, rfl, hI2, hk2⟩ := hq; have hF := kp_loG (b := 8) hk2 (by rfl) (by decide); (try dsimp only at hF); (try have hFr : ∀ o, o < 8 → Z' o = Z o := fun o ho => (hF o (by omega)).trans (by (repeat (first | ((with_reducible show upZ _ _ _ _ _ = _); refine (upo (by omega)).trans ?_) | ((with_reducible show zrZ _ _ _ = _); refine (zro (by omega)).trans ?_) | fail)); (first | exact hFr o (by omega) | rfl))))
         | (obtain ⟨Z', rfl, rfl, hI2⟩ := hq))
      | (intro hc; (try simp only [cmp3_c] at hc); simp only [cmpI] at hc; first | (exfalso; revert hc; decide; done) | skip))
    all_goals first
      | with_reducible rfl
      | ((with_reducible show recvG _ _); rfl)
      | trivial
      | decide
      | ((with_reducible show preT _ _ _); show _ = RT _; (repeat (first | ((with_reducible show upR _ _ _ _ = _); refine up_RT ?_ (by decide +kernel)) | ((with_reducible show zrR _ _ = _); refine zr_RT ?_ (by decide +kernel)) | exact congrArg RT (by decide) | fail)))
      | ((with_reducible show _ = RT _); (repeat (first | ((with_reducible show upR _ _ _ _ = _); refine up_RT ?_ (by decide +kernel)) | ((with_reducible show zrR _ _ = _); refine zr_RT ?_ (by decide +kernel)) | exact congrArg RT (by decide) | fail)))
      | ((with_reducible show _ = R0); refine Eq.trans (b := RT 128) ?_ RT_all; (repeat (first | ((with_reducible show upR _ _ _ _ = _); refine up_RT ?_ (by decide +kernel)) | ((with_reducible show zrR _ _ = _); refine zr_RT ?_ (by decide +kernel)) | exact congrArg RT (by decide) | fail)))
      | ((with_reducible show CI _); (repeat (first | with_reducible assumption | ((with_reducible refine cix_m ?_ ?_) <;> assumption) | ((with_reducible refine cix_b70 (by assumption) ?_ ?_ ?_) <;> decide) | ((with_reducible refine cix_b72 (by assumption) ?_ ?_ ?_) <;> decide) | ((with_reducible refine cix_b74 (by assumption) ?_ ?_ ?_) <;> decide) | ((with_reducible refine cix_b76 (by assumption) ?_ ?_ ?_) <;> decide) | ((with_reducible show CI (zrZ _ _)); refine ci_zr ?_ (by decide +kernel)) | ((with_reducible show CI (upZ _ _ _ _)); refine ci_up ?_ (fun lo hi hb => by first | (cases hb; done) | (cases hb; exact ⟨by decide, by decide⟩))) | fail)))
      | ((with_reducible show CIx _ _); first | exact cix_of (by assumption) | assumption | exact cix_zr (by assumption) (by decide +kernel))
      | exact fun k => if_pos rfl
      | (show (0 : Int) ≤ 1872; decide)
      | (show (1872 : Int) ≤ 10000; decide)
      | (show (0 : Int) ≤ 468; decide)
      | (show (468 : Int) ≤ 10000; decide)
      | (refine Exists.intro _ (And.intro rfl (And.intro (Prod.ext rfl (Prod.ext rfl ?_)) ?_)); (first | (show _ = RT _; (repeat (first | ((with_reducible show upR _ _ _ _ = _); refine up_RT ?_ (by decide +kernel)) | ((with_reducible show zrR _ _ = _); refine zr_RT ?_ (by decide +kernel)) | exact congrArg RT (by decide) | fail))) | (show _ = R0; refine Eq.trans (b := RT 128) ?_ RT_all; (repeat (first | ((with_reducible show upR _ _ _ _ = _); refine up_RT ?_ (by decide +kernel)) | ((with_reducible show zrR _ _ = _); refine zr_RT ?_ (by decide +kernel)) | exact congrArg RT (by decide) | fail))) | rfl | fail); refine And.intro (by (repeat (first | with_reducible assumption | ((with_reducible refine cix_m ?_ ?_) <;> assumption) | ((with_reducible refine cix_b70 (by assumption) ?_ ?_ ?_) <;> decide) | ((with_reducible refine cix_b72 (by assumption) ?_ ?_ ?_) <;> decide) | ((with_reducible refine cix_b74 (by assumption) ?_ ?_ ?_) <;> decide) | ((with_reducible refine cix_b76 (by assumption) ?_ ?_ ?_) <;> decide) | ((with_reducible show CI (zrZ _ _)); refine ci_zr ?_ (by decide +kernel)) | ((with_reducible show CI (upZ _ _ _ _)); refine ci_up ?_ (fun lo hi hb => by first | (cases hb; done) | (cases hb; exact ⟨by decide, by decide⟩))) | fail))) (And.intro (fun o ho => by (repeat (first | ((with_reducible show upZ _ _ _ _ _ = _); refine (upo (by omega)).trans ?_) | ((with_reducible show zrZ _ _ _ = _); refine (zro (by omega)).trans ?_) | fail)); (first | exact hFr o (by omega) | rfl)) (by exact fun h => absurd h (by decide))))
      | rfl
      | omega
      | skip
  · obtain rfl : n = 19 := hn
    obtain rfl : R = RT 16 := hR
    have hFr : ∀ o, o < 20 → Z o = Z o := fun _ _ => rfl
    refine wp_run hG [] 400 _ _ _ _ ?_
    repeat' (first
      | with_reducible rfl
      | (refine And.intro ?_ ?_ <;> (try dsimp only))
      | (intro (r : Option PV) σ' hq
         first
         | (obtain ⟨rfl, rfl⟩ := hq)
         | (obtain ⟨Z', rfl, rfl, hI2, hk2, hP⟩ := hq; (try replace hP : _ ∧ _ := hP); (try dsimp only at hk2); (try dsimp only at hP); have hF := kp_loG (b := 19) hk2 (by rfl) (by decide); (try dsimp only at hF); (try have hFr : ∀ o, o < 19 → Z' o = Z o := fun o ho => (hF o (by omega)).trans (by (repeat (first | ((with_reducible show upZ _ _ _ _ _ = _); refine (upo (by omega)).trans ?_) | ((with_reducible show zrZ _ _ _ = _); refine (zro (by omega)).trans ?_) | fail)); (first | exact hFr o (by omega) | rfl))))
         | (obtain ⟨Z', rfl, rfl, hI2, hF, hV⟩ := hq; (try dsimp only at hF hV); (try have hFr : ∀ o, o < 19 → Z' o = Z o := fun o ho => (hF o (by omega)).trans (by (repeat (first | ((with_reducible show upZ _ _ _ _ _ = _); refine (upo (by omega)).trans ?_) | ((with_reducible show zrZ _ _ _ = _); refine (zro (by omega)).trans ?_) | fail)); (first | exact hFr o (by omega) | rfl))))
         | (obtain ⟨Z', rfl, rfl, hI2, hk2⟩ := hq; have hF := kp_loG (b := 19) hk2 (by rfl) (by decide); (try dsimp only at hF); (try have hFr : ∀ o, o < 19 → Z' o = Z o := fun o ho => (hF o (by omega)).trans (by (repeat (first | ((with_reducible show upZ _ _ _ _ _ = _); refine (upo (by omega)).trans ?_) | ((with_reducible show zrZ _ _ _ = _); refine (zro (by omega)).trans ?_) | fail)); (first | exact hFr o (by omega) | rfl))))
         | (obtain ⟨Z', rfl, rfl, hI2⟩ := hq))
      | (intro hc; (try simp only [cmp3_c] at hc); simp only [cmpI] at hc; first | (exfalso; revert hc; decide; done) | skip))
    all_goals first
      | with_reducible rfl
      | ((with_reducible show recvG _ _); rfl)
      | trivial
      | decide
      | ((with_reducible show preT _ _ _); show _ = RT _; (repeat (first | ((with_reducible show upR _ _ _ _ = _); refine up_RT ?_ (by decide +kernel)) | ((with_reducible show zrR _ _ = _); refine zr_RT ?_ (by decide +kernel)) | exact congrArg RT (by decide) | fail)))
      | ((with_reducible show _ = RT _); (repeat (first | ((with_reducible show upR _ _ _ _ = _); refine up_RT ?_ (by decide +kernel)) | ((with_reducible show zrR _ _ = _); refine zr_RT ?_ (by decide +kernel)) | exact congrArg RT (by decide) | fail)))
      | ((with_reducible show _ = R0); refine Eq.trans (b := RT 128) ?_ RT_all; (repeat (first | ((with_reducible show upR _ _ _ _ = _); refine up_RT ?_ (by decide +kernel)) | ((with_reducible show zrR _ _ = _); refine zr_RT ?_ (by decide +kernel)) | exact congrArg RT (by decide) | fail)))
      | ((with_reducible show CI _); (repeat (first | with_reducible assumption | ((with_reducible refine cix_m ?_ ?_) <;> assumption) | ((with_reducible refine cix_b70 (by assumption) ?_ ?_ ?_) <;> decide) | ((with_reducible refine cix_b72 (by assumption) ?_ ?_ ?_) <;> decide) | ((with_reducible refine cix_b74 (by assumption) ?_ ?_ ?_) <;> decide) | ((with_reducible refine cix_b76 (by assumption) ?_ ?_ ?_) <;> decide) | ((with_reducible show CI (zrZ _ _)); refine ci_zr ?_ (by decide +kernel)) | ((with_reducible show CI (upZ _ _ _ _)); refine ci_up ?_ (fun lo hi hb => by first | (cases hb; done) | (cases hb; exact ⟨by decide, by decide⟩))) | fail)))
      | ((with_reducible show CIx _ _); first | exact cix_of (by assumption) | assumption | exact cix_zr (by assumption) (by decide +kernel))
      | exact fun k => if_pos rfl
      | (show (0 : Int) ≤ 1872; decide)
      | (show (1872 : Int) ≤ 10000; decide)
      | (show (0 : Int) ≤ 468; decide)
      | (show (468 : Int) ≤ 10000; decide)
      | (refine Exists.intro _ (And.intro rfl (And.intro (Prod.ext rfl (Prod.ext rfl ?_)) ?_)); (first | (show _ = RT _; (repeat (first | ((with_reducible show upR _ _ _ _ = _); refine up_RT ?_ (by decide +kernel)) | ((with_reducible show zrR _ _ = _); refine zr_RT ?_ (by decide +kernel)) | exact congrArg RT (by decide) | fail))) | (show _ = R0; refine Eq.trans (b := RT 128) ?_ RT_all; (repeat (first | ((with_reducible show upR _ _ _ _ = _); refine up_RT ?_ (by decide +kernel)) | ((with_reducible show zrR _ _ = _); refine zr_RT ?_ (by decide +kernel)) | exact congrArg RT (by decide) | fail))) | rfl | fail); refine And.intro (by (repeat (first | with_reducible assumption | ((with_reducible refine cix_m ?_ ?_) <;> assumption) | ((with_reducible refine cix_b70 (by assumption) ?_ ?_ ?_) <;> decide) | ((with_reducible refine cix_b72 (by assumption) ?_ ?_ ?_) <;> decide) | ((with_reducible refine cix_b74 (by assumption) ?_ ?_ ?_) <;> decide) | ((with_reducible refine cix_b76 (by assumption) ?_ ?_ ?_) <;> decide) | ((with_reducible show CI (zrZ _ _)); refine ci_zr ?_ (by decide +kernel)) | ((with_reducible show CI (upZ _ _ _ _)); refine ci_up ?_ (fun lo hi hb => by first | (cases hb; done) | (cases hb; exact ⟨by decide, by decide⟩))) | fail))) (And.intro (fun o ho => by (repeat (first | ((with_reducible show upZ _ _ _ _ _ = _); refine (upo (by omega)).trans ?_) | ((with_reducible show zrZ _ _ _ = _); refine (zro (by omega)).trans ?_) | fail)); (first | exact hFr o (by omega) | rfl)) (by exact fun _ => ⟨hP.1, hP.2.1, hP.2.2.1, hP.2.2.2.1⟩)))
      | rfl
      | omega
      | skip
  · obtain rfl : n = 37 := hn
    obtain rfl : R = RT 33 := hR
    have hFr : ∀ o, o < 38 → Z o = Z o := fun _ _ => rfl
    refine wp_run hG [] 400 _ _ _ _ ?_
    repeat' (first
      | with_reducible rfl
      | (refine And.intro ?_ ?_ <;> (try dsimp only))
      | (intro (r : Option PV) σ' hq
         first
         | (obtain ⟨rfl, rfl⟩ := hq)
         | (obtain ⟨Z', rfl, rfl, hI2, hk2, hP⟩ := hq; (try replace hP : _ ∧ _ := hP); (try dsimp only at hk2); (try dsimp only at hP); have hF := kp_loG (b := 37) hk2 (by rfl) (by decide); (try dsimp only at hF); (try have hFr : ∀ o, o < 37 → Z' o = Z o := fun o ho => (hF o (by omega)).trans (by (repeat (first | ((with_reducible show upZ _ _ _ _ _ = _); refine (upo (by omega)).trans ?_) | ((with_reducible show zrZ _ _ _ = _); refine (zro (by omega)).trans ?_) | fail)); (first | exact hFr o (by omega) | rfl))))
         | (obtain ⟨Z', rfl, rfl, hI2, hF, hV⟩ := hq; (try dsimp only at hF hV); (try have hFr : ∀ o, o < 37 → Z' o = Z o := fun o ho => (hF o (by omega)).trans (by (repeat (first | ((with_reducible show upZ _ _ _ _ _ = _); refine (upo (by omega)).trans ?_) | ((with_reducible show zrZ _ _ _ = _); refine (zro (by omega)).trans ?_) | fail)); (first | exact hFr o (by omega) | rfl))))
         | (obtain ⟨Z', rfl, rfl, hI2, hk2⟩ := hq; have hF := kp_loG (b := 37) hk2 (by rfl) (by decide); (try dsimp only at hF); (try have hFr : ∀ o, o < 37 → Z' o = Z o := fun o ho => (hF o (by omega)).trans (by (repeat (first | ((with_reducible show upZ _ _ _ _ _ = _); refine (upo (by omega)).trans ?_) | ((with_reducible show zrZ _ _ _ = _); refine (zro (by omega)).trans ?_) | fail)); (first | exact hFr o (by omega) | rfl))))
         | (obtain ⟨Z', rfl, rfl, hI2⟩ := hq))
      | (intro hc; (try simp only [cmp3_c] at hc); simp only [cmpI] at hc; first | (exfalso; revert hc; decide; done) | skip))
    all_goals first
      | with_reducible rfl
      | ((with_reducible show recvG _ _); rfl)
      | trivial
      | decide
      | ((with_reducible show preT _ _ _); show _ = RT _; (repeat (first | ((with_reducible show upR _ _ _ _ = _); refine up_RT ?_ (by decide +kernel)) | ((with_reducible show zrR _ _ = _); refine zr_RT ?_ (by decide +kernel)) | exact congrArg RT (by decide) | fail)))
      | ((with_reducible show _ = RT _); (repeat (first | ((with_reducible show upR _ _ _ _ = _); refine up_RT ?_ (by decide +kernel)) | ((with_reducible show zrR _ _ = _); refine zr_RT ?_ (by decide +kernel)) | exact congrArg RT (by decide) | fail)))
      | ((with_reducible show _ = R0); refine Eq.trans (b := RT 128) ?_ RT_all; (repeat (first | ((with_reducible show upR _ _ _ _ = _); refine up_RT ?_ (by decide +kernel)) | ((with_reducible show zrR _ _ = _); refine zr_RT ?_ (by decide +kernel)) | exact congrArg RT (by decide) | fail)))
      | ((with_reducible show CI _); (repeat (first | with_reducible assumption | ((with_reducible refine cix_m ?_ ?_) <;> assumption) | ((with_reducible refine cix_b70 (by assumption) ?_ ?_ ?_) <;> decide) | ((with_reducible refine cix_b72 (by assumption) ?_ ?_ ?_) <;> decide) | ((with_reducible refine cix_b74 (by assumption) ?_ ?_ ?_) <;> decide) | ((with_reducible refine cix_b76 (by assumption) ?_ ?_ ?_) <;> decide) | ((with_reducible show CI (zrZ _ _)); refine ci_zr ?_ (by decide +kernel)) | ((with_reducible show CI (upZ _ _ _ _)); refine ci_up ?_ (fun lo hi hb => by first | (cases hb; done) | (cases hb; exact ⟨by decide, by decide⟩))) | fail)))
      | ((with_reducible show CIx _ _); first | exact cix_of (by assumption) | assumption | exact cix_zr (by assumption) (by decide +kernel))
      | exact fun k => if_pos rfl
      | (show (0 : Int) ≤ 1872; decide)
      | (show (1872 : Int) ≤ 10000; decide)
      | (show (0 : Int) ≤ 468; decide)
      | (show (468 : Int) ≤ 10000; decide)
      | (refine Exists.intro _ (And.intro rfl (And.intro (Prod.ext rfl (Prod.ext rfl ?_)) ?_)); (first | (show _ = RT _; (repeat (first | ((with_reducible show upR _ _ _ _ = _); refine up_RT ?_ (by decide +kernel)) | ((with_reducible show zrR _ _ = _); refine zr_RT ?_ (by decide +kernel)) | exact congrArg RT (by decide) | fail))) | (show _ = R0; refine Eq.trans (b := RT 128) ?_ RT_all; (repeat (first | ((with_reducible show upR _ _ _ _ = _); refine up_RT ?_ (by decide +kernel)) | ((with_reducible show zrR _ _ = _); refine zr_RT ?_ (by decide +kernel)) | exact congrArg RT (by decide) | fail))) | rfl | fail); refine And.intro (by (repeat (first | with_reducible assumption | ((with_reducible refine cix_m ?_ ?_) <;> assumption) | ((with_reducible refine cix_b70 (by assumption) ?_ ?_ ?_) <;> decide) | ((with_reducible refine cix_b72 (by assumption) ?_ ?_ ?_) <;> decide) | ((with_reducible refine cix_b74 (by assumption) ?_ ?_ ?_) <;> decide) | ((with_reducible refine cix_b76 (by assumption) ?_ ?_ ?_) <;> decide) | ((with_reducible show CI (zrZ _ _)); refine ci_zr ?_ (by decide +kernel)) | ((with_reducible show CI (upZ _ _ _ _)); refine ci_up ?_ (fun lo hi hb => by first | (cases hb; done) | (cases hb; exact ⟨by decide, by decide⟩))) | fail))) (And.intro (fun o ho => by (repeat (first | ((with_reducible show upZ _ _ _ _ _ = _); refine (upo (by omega)).trans ?_) | ((with_reducible show zrZ _ _ _ = _); refine (zro (by omega)).trans ?_) | fail)); (first | exact hFr o (by omega) | rfl)) (by exact fun h => absurd h (by decide))))
      | rfl
      | omega
      | skip
  · obtain rfl : n = 54 := hn
    obtain rfl : R = RT 50 := hR
    have hFr : ∀ o, o < 55 → Z o = Z o := fun _ _ => rfl
    refine wp_run hG [] 400 _ _ _ _ ?_
    repeat' (first
      | with_reducible rfl
      | (refine And.intro ?_ ?_ <;> (try dsimp only))
      | (intro (r : Option PV) σ' hq
         first
         | (obtain ⟨rfl, rfl⟩ := hq)
         | (obtain ⟨Z', rfl, rfl, hI2, hk2, hP⟩ := hq; (try replace hP : _ ∧ _ := hP); (try dsimp only at hk2); (try dsimp only at hP); have hF := kp_loG (b := 54) hk2 (by rfl) (by decide); (try dsimp only at hF); (try have hFr : ∀ o, o < 54 → Z' o = Z o := fun o ho => (hF o (by omega)).trans (by (repeat (first | ((with_reducible show upZ _ _ _ _ _ = _); refine (upo (by omega)).trans ?_) | ((with_reducible show zrZ _ _ _ = _); refine (zro (by omega)).trans ?_) | fail)); (first | exact hFr o (by omega) | rfl))))
         | (obtain ⟨Z', rfl, rfl, hI2, hF, hV⟩ := hq; (try dsimp only at hF hV); (try have hFr : ∀ o, o < 54 → Z' o = Z o := fun o ho => (hF o (by omega)).trans (by (repeat (first | ((with_reducible show upZ _ _ _ _ _ = _); refine (upo (by omega)).trans ?_) | ((with_reducible show zrZ _ _ _ = _); refine (zro (by omega)).trans ?_) | fail)); (first | exact hFr o (by omega) | rfl))))
         | (obtain ⟨Z', rfl, rfl, hI2, hk2⟩ := hq; have hF := kp_loG (b := 54) hk2 (by rfl) (by decide); (try dsimp only at hF); (try have hFr : ∀ o, o < 54 → Z' o = Z o := fun o ho => (hF o (by omega)).trans (by (repeat (first | ((with_reducible show upZ _ _ _ _ _ = _); refine (upo (by omega)).trans ?_) | ((with_reducible show zrZ _ _ _ = _); refine (zro (by omega)).trans ?_) | fail)); (first | exact hFr o (by omega) | rfl))))
         | (obtain ⟨Z', rfl, rfl, hI2⟩ := hq))
      | (intro hc; (try simp only [cmp3_c] at hc); simp only [cmpI] at hc; first | (exfalso; revert hc; decide; done) | skip))
    all_goals first
      | with_reducible rfl
      | ((with_reducible show recvG _ _); rfl)
      | trivial
      | decide
      | ((with_reducible show preT _ _ _); show _ = RT _; (repeat (first | ((with_reducible show upR _ _ _ _ = _); refine up_RT ?_ (by decide +kernel)) | ((with_reducible show zrR _ _ = _); refine zr_RT ?_ (by decide +kernel)) | exact congrArg RT (by decide) | fail)))
      | ((with_reducible show _ = RT _); (repeat (first | ((with_reducible show upR _ _ _ _ = _); refine up_RT ?_ (by decide +kernel)) | ((with_reducible show zrR _ _ = _); refine zr_RT ?_ (by decide +kernel)) | exact congrArg RT (by decide) | fail)))
      | ((with_reducible show _ = R0); refine Eq.trans (b := RT 128) ?_ RT_all; (repeat (first | ((with_reducible show upR _ _ _ _ = _); refine up_RT ?_ (by decide +kernel)) | ((with_reducible show zrR _ _ = _); refine zr_RT ?_ (by decide +kernel)) | exact congrArg RT (by decide) | fail)))
      | ((with_reducible show CI _); (repeat (first | with_reducible assumption | ((with_reducible refine cix_m ?_ ?_) <;> assumption) | ((with_reducible refine cix_b70 (by assumption) ?_ ?_ ?_) <;> decide) | ((with_reducible refine cix_b72 (by assumption) ?_ ?_ ?_) <;> decide) | ((with_reducible refine cix_b74 (by assumption) ?_ ?_ ?_) <;> decide) | ((with_reducible refine cix_b76 (by assumption) ?_ ?_ ?_) <;> decide) | ((with_reducible show CI (zrZ _ _)); refine ci_zr ?_ (by decide +kernel)) | ((with_reducible show CI (upZ _ _ _ _)); refine ci_up ?_ (fun lo hi hb => by first | (cases hb; done) | (cases hb; exact ⟨by decide, by decide⟩))) | fail)))
      | ((with_reducible show CIx _ _); first | exact cix_of (by assumption) | assumption | exact cix_zr (by assumption) (by decide +kernel))
      | exact fun k => if_pos rfl
      | (show (0 : Int) ≤ 1872; decide)
      | (show (1872 : Int) ≤ 10000; decide)
      | (show (0 : Int) ≤ 468; decide)
      | (show (468 : Int) ≤ 10000; decide)
      | (refine Exists.intro _ (And.intro rfl (And.intro (Prod.ext rfl (Prod.ext rfl ?_)) ?_)); (first | (show _ = RT _; (repeat (first | ((with_reducible show upR _ _ _ _ = _); refine up_RT ?_ (by decide +kernel)) | ((with_reducible show zrR _ _ = _); refine zr_RT ?_ (by decide +kernel)) | exact congrArg RT (by decide) | fail))) | (show _ = R0; refine Eq.trans (b := RT 128) ?_ RT_all; (repeat (first | ((with_reducible show upR _ _ _ _ = _); refine up_RT ?_ (by decide +kernel)) | ((with_reducible show zrR _ _ = _); refine zr_RT ?_ (by decide +kernel)) | exact congrArg RT (by decide) | fail))) | rfl | fail); refine And.intro (by (repeat (first | with_reducible assumption | ((with_reducible refine cix_m ?_ ?_) <;> assumption) | ((with_reducible refine cix_b70 (by assumption) ?_ ?_ ?_) <;> decide) | ((with_reducible refine cix_b72 (by assumption) ?_ ?_ ?_) <;> decide) | ((with_reducible refine cix_b74 (by assumption) ?_ ?_ ?_) <;> decide) | ((with_reducible refine cix_b76 (by assumption) ?_ ?_ ?_) <;> decide) | ((with_reducible show CI (zrZ _ _)); refine ci_zr ?_ (by decide +kernel)) | ((with_reducible show CI (upZ _ _ _ _)); refine ci_up ?_ (fun lo hi hb => by first | (cases hb; done) | (cases hb; exact ⟨by decide, by decide⟩))) | fail))) (And.intro (fun o ho => by (repeat (first | ((with_reducible show upZ _ _ _ _ _ = _); refine (upo (by omega)).trans ?_) | ((with_reducible show zrZ _ _ _ = _); refine (zro (by omega)).trans ?_) | fail)); (first | exact hFr o (by omega) | rfl)) (by exact fun h => absurd h (by decide))))
      | rfl
      | omega
      | skip
def s_X4_initG : Sp := (1, 4, 1, fun as σ => match as with
    | [.inr (.inr a0)] => ((a0 = 78)) ∧ σ.1 = a0 ∧ σ.2.2 = RT (bX4 a0) ∧ CI σ.2.1
    | _ => False, fun as σ r σ' => match as with
    | [.inr (.inr a0)] => ∃ Z' : ZT, r = none ∧ σ' = (a0 + 1, Z', RT (eX4 a0)) ∧ CI Z' ∧ (∀ o, o < a0 → Z' o = σ.2.1 o) ∧ (FV78 Z')
    | _ => False)
set_option maxRecDepth 100000 in
set_option maxHeartbeats 40000000 in
theorem c_X4_initG {l : Launch} {D : va_G} {cA : Nat → ClassId} : PM l D cA yX4_init cX4_init 1 none 1 20 s_X4_initG := by
  refine of_X4_init  (fun as σ hwf hao hpre => ?_)
  obtain ⟨n, Z, R⟩ := σ
  rcases as with _ | ⟨x | x | a0, _ | ⟨v, t⟩⟩ <;> first | exact (hpre : False).elim | skip
  obtain ⟨h0, hn, hR, hI⟩ := hpre
  refine ⟨Nat.le_of_ble_eq_true rfl, fun G hG => ?_⟩
  clear hao hwf
  rcases h0 with rfl
  · obtain rfl : n = 78 := hn
    obtain rfl : R = RT 76 := hR
    have hFr : ∀ o, o < 79 → Z o = Z o := fun _ _ => rfl
    refine wp_run hG [] 400 _ _ _ _ ?_
    repeat' (first
      | with_reducible rfl
      | (refine And.intro ?_ ?_ <;> (try dsimp only))
      | (intro (r : Option PV) σ' hq
         first
         | (obtain ⟨rfl, rfl⟩ := hq)
         | (obtain ⟨Z', rfl, rfl, hI2, hk2, hP⟩ := hq; (try replace hP : _ ∧ _ := hP); (try dsimp only at hk2); (try dsimp only at hP); have hF := kp_loG (b := 78) hk2 (by rfl) (by decide); (try dsimp only at hF); (try have hFr : ∀ o, o < 78 → Z' o = Z o := fun o ho => (hF o (by omega)).trans (by (repeat (first | ((with_reducible show upZ _ _ _ _ _ = _); refine (upo (by omega)).trans ?_) | ((with_reducible show zrZ _ _ _ = _); refine (zro (by omega)).trans ?_) | fail)); (first | exact hFr o (by omega) | rfl))))
         | (obtain ⟨Z', rfl, rfl, hI2, hF, hV⟩ := hq; (try dsimp only at hF hV); (try have hFr : ∀ o, o < 78 → Z' o = Z o := fun o ho => (hF o (by omega)).trans (by (repeat (first | ((with_reducible show upZ _ _ _ _ _ = _); refine (upo (by omega)).trans ?_) | ((with_reducible show zrZ _ _ _ = _); refine (zro (by omega)).trans ?_) | fail)); (first | exact hFr o (by omega) | rfl))))
         | (obtain ⟨Z', rfl, rfl, hI2, hk2⟩ := hq; have hF := kp_loG (b := 78) hk2 (by rfl) (by decide); (try dsimp only at hF); (try have hFr : ∀ o, o < 78 → Z' o = Z o := fun o ho => (hF o (by omega)).trans (by (repeat (first | ((with_reducible show upZ _ _ _ _ _ = _); refine (upo (by omega)).trans ?_) | ((with_reducible show zrZ _ _ _ = _); refine (zro (by omega)).trans ?_) | fail)); (first | exact hFr o (by omega) | rfl))))
         | (obtain ⟨Z', rfl, rfl, hI2⟩ := hq))
      | (intro hc; (try simp only [cmp3_c] at hc); simp only [cmpI] at hc; first | (exfalso; revert hc; decide; done) | skip))
    all_goals first
      | with_reducible rfl
      | ((with_reducible show recvG _ _); rfl)
      | trivial
      | decide
      | ((with_reducible show preT _ _ _); show _ = RT _; (repeat (first | ((with_reducible show upR _ _ _ _ = _); refine up_RT ?_ (by decide +kernel)) | ((with_reducible show zrR _ _ = _); refine zr_RT ?_ (by decide +kernel)) | exact congrArg RT (by decide) | fail)))
      | ((with_reducible show _ = RT _); (repeat (first | ((with_reducible show upR _ _ _ _ = _); refine up_RT ?_ (by decide +kernel)) | ((with_reducible show zrR _ _ = _); refine zr_RT ?_ (by decide +kernel)) | exact congrArg RT (by decide) | fail)))
      | ((with_reducible show _ = R0); refine Eq.trans (b := RT 128) ?_ RT_all; (repeat (first | ((with_reducible show upR _ _ _ _ = _); refine up_RT ?_ (by decide +kernel)) | ((with_reducible show zrR _ _ = _); refine zr_RT ?_ (by decide +kernel)) | exact congrArg RT (by decide) | fail)))
      | ((with_reducible show CI _); (repeat (first | with_reducible assumption | ((with_reducible refine cix_m ?_ ?_) <;> assumption) | ((with_reducible refine cix_b70 (by assumption) ?_ ?_ ?_) <;> decide) | ((with_reducible refine cix_b72 (by assumption) ?_ ?_ ?_) <;> decide) | ((with_reducible refine cix_b74 (by assumption) ?_ ?_ ?_) <;> decide) | ((with_reducible refine cix_b76 (by assumption) ?_ ?_ ?_) <;> decide) | ((with_reducible show CI (zrZ _ _)); refine ci_zr ?_ (by decide +kernel)) | ((with_reducible show CI (upZ _ _ _ _)); refine ci_up ?_ (fun lo hi hb => by first | (cases hb; done) | (cases hb; exact ⟨by decide, by decide⟩))) | fail)))
      | ((with_reducible show CIx _ _); first | exact cix_of (by assumption) | assumption | exact cix_zr (by assumption) (by decide +kernel))
      | exact fun k => if_pos rfl
      | (show (0 : Int) ≤ 1872; decide)
      | (show (1872 : Int) ≤ 10000; decide)
      | (show (0 : Int) ≤ 468; decide)
      | (show (468 : Int) ≤ 10000; decide)
      | (refine Exists.intro _ (And.intro rfl (And.intro (Prod.ext rfl (Prod.ext rfl ?_)) ?_)); (first | (show _ = RT _; (repeat (first | ((with_reducible show upR _ _ _ _ = _); refine up_RT ?_ (by decide +kernel)) | ((with_reducible show zrR _ _ = _); refine zr_RT ?_ (by decide +kernel)) | exact congrArg RT (by decide) | fail))) | (show _ = R0; refine Eq.trans (b := RT 128) ?_ RT_all; (repeat (first | ((with_reducible show upR _ _ _ _ = _); refine up_RT ?_ (by decide +kernel)) | ((with_reducible show zrR _ _ = _); refine zr_RT ?_ (by decide +kernel)) | exact congrArg RT (by decide) | fail))) | rfl | fail); refine And.intro (by (repeat (first | with_reducible assumption | ((with_reducible refine cix_m ?_ ?_) <;> assumption) | ((with_reducible refine cix_b70 (by assumption) ?_ ?_ ?_) <;> decide) | ((with_reducible refine cix_b72 (by assumption) ?_ ?_ ?_) <;> decide) | ((with_reducible refine cix_b74 (by assumption) ?_ ?_ ?_) <;> decide) | ((with_reducible refine cix_b76 (by assumption) ?_ ?_ ?_) <;> decide) | ((with_reducible show CI (zrZ _ _)); refine ci_zr ?_ (by decide +kernel)) | ((with_reducible show CI (upZ _ _ _ _)); refine ci_up ?_ (fun lo hi hb => by first | (cases hb; done) | (cases hb; exact ⟨by decide, by decide⟩))) | fail))) (And.intro (fun o ho => by (repeat (first | ((with_reducible show upZ _ _ _ _ _ = _); refine (upo (by omega)).trans ?_) | ((with_reducible show zrZ _ _ _ = _); refine (zro (by omega)).trans ?_) | fail)); (first | exact hFr o (by omega) | rfl)) (by rfl)))
      | rfl
      | omega
      | skip
def s_X9_initG : Sp := (1, 9, 4, fun as σ => match as with
    | [.inr (.inr a0)] => ((a0 = 88) ∨ (a0 = 95)) ∧ σ.1 = a0 ∧ σ.2.2 = RT (bX9 a0) ∧ CI σ.2.1 ∧ (∀ k, σ.2.1 a0 k = 0)
    | _ => False, fun as σ r σ' => match as with
    | [.inr (.inr a0)] => ∃ Z' : ZT, r = none ∧ σ' = (a0 + 4, Z', RT (eX9 a0)) ∧ CI Z' ∧ (∀ o, o < a0 → Z' o = σ.2.1 o) ∧ (a0 = 88 → FV88 Z')
    | _ => False)
set_option maxRecDepth 100000 in
set_option maxHeartbeats 40000000 in
theorem c_X9_initG {l : Launch} {D : va_G} {cA : Nat → ClassId} : PM l D cA yX9_init cX9_init 1 none 1 20 s_X9_initG := by
  refine of_X9_init  (fun as σ hwf hao hpre => ?_)
  obtain ⟨n, Z, R⟩ := σ
  rcases as with _ | ⟨x | x | a0, _ | ⟨v, t⟩⟩ <;> first | exact (hpre : False).elim | skip
  obtain ⟨h0, hn, hR, hI, hz⟩ := hpre
  refine ⟨Nat.le_of_ble_eq_true rfl, fun G hG => ?_⟩
  clear hao hwf
  rcases h0 with rfl | rfl
  · obtain rfl : n = 88 := hn
    obtain rfl : R = RT 86 := hR
    have hFr : ∀ o, o < 89 → Z o = Z o := fun _ _ => rfl
    have hz : ∀ k, Z 88 k = 0 := hz
    refine wp_run hG [] 400 _ _ _ _ ?_
    repeat' (first
      | with_reducible rfl
      | (refine And.intro ?_ ?_ <;> (try dsimp only))
      | (intro (r : Option PV) σ' hq
         first
         | (obtain ⟨rfl, rfl⟩ := hq)
         | (obtain ⟨Z', rfl, rfl, hI2, hk2, hP⟩ := hq; (try replace hP : _ ∧ _ := hP); (try dsimp only at hk2); (try dsimp only at hP); have hF := kp_loG (b := 88) hk2 (by rfl) (by decide); (try dsimp only at hF); (try have hFr : ∀ o, o < 88 → Z' o = Z o := fun o ho => (hF o (by omega)).trans (by (repeat (first | ((with_reducible show upZ _ _ _ _ _ = _); refine (upo (by omega)).trans ?_) | ((with_reducible show zrZ _ _ _ = _); refine (zro (by omega)).trans ?_) | fail)); (first | exact hFr o (by omega) | rfl))))
         | (obtain ⟨Z', rfl, rfl, hI2, hF, hV⟩ := hq; (try dsimp only at hF hV); (try have hFr : ∀ o, o < 88 → Z' o = Z o := fun o ho => (hF o (by omega)).trans (by (repeat (first | ((with_reducible show upZ _ _ _ _ _ = _); refine (upo (by omega)).trans ?_) | ((with_reducible show zrZ _ _ _ = _); refine (zro (by omega)).trans ?_) | fail)); (first | exact hFr o (by omega) | rfl))))
         | (obtain ⟨Z', rfl, rfl, hI2, hk2⟩ := hq; have hF := kp_loG (b := 88) hk2 (by rfl) (by decide); (try dsimp only at hF); (try have hFr : ∀ o, o < 88 → Z' o = Z o := fun o ho => (hF o (by omega)).trans (by (repeat (first | ((with_reducible show upZ _ _ _ _ _ = _); refine (upo (by omega)).trans ?_) | ((with_reducible show zrZ _ _ _ = _); refine (zro (by omega)).trans ?_) | fail)); (first | exact hFr o (by omega) | rfl))))
         | (obtain ⟨Z', rfl, rfl, hI2⟩ := hq))
      | (intro hc; (try simp only [cmp3_c] at hc); simp only [cmpI] at hc; first | (exfalso; revert hc; decide; done) | skip))
    all_goals first
      | with_reducible rfl
      | ((with_reducible show recvG _ _); rfl)
      | trivial
      | decide
      | ((with_reducible show preT _ _ _); show _ = RT _; (repeat (first | ((with_reducible show upR _ _ _ _ = _); refine up_RT ?_ (by decide +kernel)) | ((with_reducible show zrR _ _ = _); refine zr_RT ?_ (by decide +kernel)) | exact congrArg RT (by decide) | fail)))
      | ((with_reducible show _ = RT _); (repeat (first | ((with_reducible show upR _ _ _ _ = _); refine up_RT ?_ (by decide +kernel)) | ((with_reducible show zrR _ _ = _); refine zr_RT ?_ (by decide +kernel)) | exact congrArg RT (by decide) | fail)))
      | ((with_reducible show _ = R0); refine Eq.trans (b := RT 128) ?_ RT_all; (repeat (first | ((with_reducible show upR _ _ _ _ = _); refine up_RT ?_ (by decide +kernel)) | ((with_reducible show zrR _ _ = _); refine zr_RT ?_ (by decide +kernel)) | exact congrArg RT (by decide) | fail)))
      | ((with_reducible show CI _); (repeat (first | with_reducible assumption | ((with_reducible refine cix_m ?_ ?_) <;> assumption) | ((with_reducible refine cix_b70 (by assumption) ?_ ?_ ?_) <;> decide) | ((with_reducible refine cix_b72 (by assumption) ?_ ?_ ?_) <;> decide) | ((with_reducible refine cix_b74 (by assumption) ?_ ?_ ?_) <;> decide) | ((with_reducible refine cix_b76 (by assumption) ?_ ?_ ?_) <;> decide) | ((with_reducible show CI (zrZ _ _)); refine ci_zr ?_ (by decide +kernel)) | ((with_reducible show CI (upZ _ _ _ _)); refine ci_up ?_ (fun lo hi hb => by first | (cases hb; done) | (cases hb; exact ⟨by decide, by decide⟩))) | fail)))
      | ((with_reducible show CIx _ _); first | exact cix_of (by assumption) | assumption | exact cix_zr (by assumption) (by decide +kernel))
      | exact fun k => if_pos rfl
      | (show (0 : Int) ≤ 1872; decide)
      | (show (1872 : Int) ≤ 10000; decide)
      | (show (0 : Int) ≤ 468; decide)
      | (show (468 : Int) ≤ 10000; decide)
      | (refine Exists.intro _ (And.intro rfl (And.intro (Prod.ext rfl (Prod.ext rfl ?_)) ?_)); (first | (show _ = RT _; (repeat (first | ((with_reducible show upR _ _ _ _ = _); refine up_RT ?_ (by decide +kernel)) | ((with_reducible show zrR _ _ = _); refine zr_RT ?_ (by decide +kernel)) | exact congrArg RT (by decide) | fail))) | (show _ = R0; refine Eq.trans (b := RT 128) ?_ RT_all; (repeat (first | ((with_reducible show upR _ _ _ _ = _); refine up_RT ?_ (by decide +kernel)) | ((with_reducible show zrR _ _ = _); refine zr_RT ?_ (by decide +kernel)) | exact congrArg RT (by decide) | fail))) | rfl | fail); refine And.intro (by (repeat (first | with_reducible assumption | ((with_reducible refine cix_m ?_ ?_) <;> assumption) | ((with_reducible refine cix_b70 (by assumption) ?_ ?_ ?_) <;> decide) | ((with_reducible refine cix_b72 (by assumption) ?_ ?_ ?_) <;> decide) | ((with_reducible refine cix_b74 (by assumption) ?_ ?_ ?_) <;> decide) | ((with_reducible refine cix_b76 (by assumption) ?_ ?_ ?_) <;> decide) | ((with_reducible show CI (zrZ _ _)); refine ci_zr ?_ (by decide +kernel)) | ((with_reducible show CI (upZ _ _ _ _)); refine ci_up ?_ (fun lo hi hb => by first | (cases hb; done) | (cases hb; exact ⟨by decide, by decide⟩))) | fail))) (And.intro (fun o ho => by (repeat (first | ((with_reducible show upZ _ _ _ _ _ = _); refine (upo (by omega)).trans ?_) | ((with_reducible show zrZ _ _ _ = _); refine (zro (by omega)).trans ?_) | fail)); (first | exact hFr o (by omega) | rfl)) (by exact fun _ => ⟨hz 4, fun k => rfl, fun k => rfl, fun k => rfl⟩)))
      | rfl
      | omega
      | skip
  · obtain rfl : n = 95 := hn
    obtain rfl : R = RT 92 := hR
    have hFr : ∀ o, o < 96 → Z o = Z o := fun _ _ => rfl
    have hz : ∀ k, Z 95 k = 0 := hz
    refine wp_run hG [] 400 _ _ _ _ ?_
    repeat' (first
      | with_reducible rfl
      | (refine And.intro ?_ ?_ <;> (try dsimp only))
      | (intro (r : Option PV) σ' hq
         first
         | (obtain ⟨rfl, rfl⟩ := hq)
         | (obtain ⟨Z', rfl, rfl, hI2, hk2, hP⟩ := hq; (try replace hP : _ ∧ _ := hP); (try dsimp only at hk2); (try dsimp only at hP); have hF := kp_loG (b := 95) hk2 (by rfl) (by decide); (try dsimp only at hF); (try have hFr : ∀ o, o < 95 → Z' o = Z o := fun o ho => (hF o (by omega)).trans (by (repeat (first | ((with_reducible show upZ _ _ _ _ _ = _); refine (upo (by omega)).trans ?_) | ((with_reducible show zrZ _ _ _ = _); refine (zro (by omega)).trans ?_) | fail)); (first | exact hFr o (by omega) | rfl))))
         | (obtain ⟨Z', rfl, rfl, hI2, hF, hV⟩ := hq; (try dsimp only at hF hV); (try have hFr : ∀ o, o < 95 → Z' o = Z o := fun o ho => (hF o (by omega)).trans (by (repeat (first | ((with_reducible show upZ _ _ _ _ _ = _); refine (upo (by omega)).trans ?_) | ((with_reducible show zrZ _ _ _ = _); refine (zro (by omega)).trans ?_) | fail)); (first | exact hFr o (by omega) | rfl))))
         | (obtain ⟨Z', rfl, rfl, hI2, hk2⟩ := hq; have hF := kp_loG (b := 95) hk2 (by rfl) (by decide); (try dsimp only at hF); (try have hFr : ∀ o, o < 95 → Z' o = Z o := fun o ho => (hF o (by omega)).trans (by (repeat (first | ((with_reducible show upZ _ _ _ _ _ = _); refine (upo (by omega)).trans ?_) | ((with_reducible show zrZ _ _ _ = _); refine (zro (by omega)).trans ?_) | fail)); (first | exact hFr o (by omega) | rfl))))
         | (obtain ⟨Z', rfl, rfl, hI2⟩ := hq))
      | (intro hc; (try simp only [cmp3_c] at hc); simp only [cmpI] at hc; first | (exfalso; revert hc; decide; done) | skip))
    all_goals first
      | with_reducible rfl
      | ((with_reducible show recvG _ _); rfl)
      | trivial
      | decide
      | ((with_reducible show preT _ _ _); show _ = RT _; (repeat (first | ((with_reducible show upR _ _ _ _ = _); refine up_RT ?_ (by decide +kernel)) | ((with_reducible show zrR _ _ = _); refine zr_RT ?_ (by decide +kernel)) | exact congrArg RT (by decide) | fail)))
      | ((with_reducible show _ = RT _); (repeat (first | ((with_reducible show upR _ _ _ _ = _); refine up_RT ?_ (by decide +kernel)) | ((with_reducible show zrR _ _ = _); refine zr_RT ?_ (by decide +kernel)) | exact congrArg RT (by decide) | fail)))
      | ((with_reducible show _ = R0); refine Eq.trans (b := RT 128) ?_ RT_all; (repeat (first | ((with_reducible show upR _ _ _ _ = _); refine up_RT ?_ (by decide +kernel)) | ((with_reducible show zrR _ _ = _); refine zr_RT ?_ (by decide +kernel)) | exact congrArg RT (by decide) | fail)))
      | ((with_reducible show CI _); (repeat (first | with_reducible assumption | ((with_reducible refine cix_m ?_ ?_) <;> assumption) | ((with_reducible refine cix_b70 (by assumption) ?_ ?_ ?_) <;> decide) | ((with_reducible refine cix_b72 (by assumption) ?_ ?_ ?_) <;> decide) | ((with_reducible refine cix_b74 (by assumption) ?_ ?_ ?_) <;> decide) | ((with_reducible refine cix_b76 (by assumption) ?_ ?_ ?_) <;> decide) | ((with_reducible show CI (zrZ _ _)); refine ci_zr ?_ (by decide +kernel)) | ((with_reducible show CI (upZ _ _ _ _)); refine ci_up ?_ (fun lo hi hb => by first | (cases hb; done) | (cases hb; exact ⟨by decide, by decide⟩))) | fail)))
      | ((with_reducible show CIx _ _); first | exact cix_of (by assumption) | assumption | exact cix_zr (by assumption) (by decide +kernel))
      | exact fun k => if_pos rfl
      | (show (0 : Int) ≤ 1872; decide)
      | (show (1872 : Int) ≤ 10000; decide)
      | (show (0 : Int) ≤ 468; decide)
      | (show (468 : Int) ≤ 10000; decide)
      | (refine Exists.intro _ (And.intro rfl (And.intro (Prod.ext rfl (Prod.ext rfl ?_)) ?_)); (first | (show _ = RT _; (repeat (first | ((with_reducible show upR _ _ _ _ = _); refine up_RT ?_ (by decide +kernel)) | ((with_reducible show zrR _ _ = _); refine zr_RT ?_ (by decide +kernel)) | exact congrArg RT (by decide) | fail))) | (show _ = R0; refine Eq.trans (b := RT 128) ?_ RT_all; (repeat (first | ((with_reducible show upR _ _ _ _ = _); refine up_RT ?_ (by decide +kernel)) | ((with_reducible show zrR _ _ = _); refine zr_RT ?_ (by decide +kernel)) | exact congrArg RT (by decide) | fail))) | rfl | fail); refine And.intro (by (repeat (first | with_reducible assumption | ((with_reducible refine cix_m ?_ ?_) <;> assumption) | ((with_reducible refine cix_b70 (by assumption) ?_ ?_ ?_) <;> decide) | ((with_reducible refine cix_b72 (by assumption) ?_ ?_ ?_) <;> decide) | ((with_reducible refine cix_b74 (by assumption) ?_ ?_ ?_) <;> decide) | ((with_reducible refine cix_b76 (by assumption) ?_ ?_ ?_) <;> decide) | ((with_reducible show CI (zrZ _ _)); refine ci_zr ?_ (by decide +kernel)) | ((with_reducible show CI (upZ _ _ _ _)); refine ci_up ?_ (fun lo hi hb => by first | (cases hb; done) | (cases hb; exact ⟨by decide, by decide⟩))) | fail))) (And.intro (fun o ho => by (repeat (first | ((with_reducible show upZ _ _ _ _ _ = _); refine (upo (by omega)).trans ?_) | ((with_reducible show zrZ _ _ _ = _); refine (zro (by omega)).trans ?_) | fail)); (first | exact hFr o (by omega) | rfl)) (by exact fun h => absurd h (by decide))))
      | rfl
      | omega
      | skip
def s_X2_initG : Sp := (1, 2, 1, fun as σ => match as with
    | [.inr (.inr a0)] => ((a0 = 86)) ∧ σ.1 = a0 ∧ σ.2.2 = RT (bX2 a0) ∧ CI σ.2.1
    | _ => False, fun as σ r σ' => match as with
    | [.inr (.inr a0)] => ∃ Z' : ZT, r = none ∧ σ' = (a0 + 1, Z', RT (eX2 a0)) ∧ CI Z' ∧ (∀ o, o < a0 → Z' o = σ.2.1 o) ∧ (FV86 Z')
    | _ => False)
set_option maxRecDepth 100000 in
set_option maxHeartbeats 40000000 in
theorem c_X2_initG {l : Launch} {D : va_G} {cA : Nat → ClassId} : PM l D cA yX2_init cX2_init 2 none 1 20 s_X2_initG := by
  refine of_X2_init  (fun as σ hwf hao hpre => ?_)
  obtain ⟨n, Z, R⟩ := σ
  rcases as with _ | ⟨x | x | a0, _ | ⟨v, t⟩⟩ <;> first | exact (hpre : False).elim | skip
  obtain ⟨h0, hn, hR, hI⟩ := hpre
  refine ⟨Nat.le_of_ble_eq_true rfl, fun G hG => ?_⟩
  clear hao hwf
  rcases h0 with rfl
  · obtain rfl : n = 86 := hn
    obtain rfl : R = RT 84 := hR
    have hFr : ∀ o, o < 87 → Z o = Z o := fun _ _ => rfl
    refine wp_run hG [] 400 _ _ _ _ ?_
    repeat' (first
      | with_reducible rfl
      | (refine And.intro ?_ ?_ <;> (try dsimp only))
      | (intro (r : Option PV) σ' hq
         first
         | (obtain ⟨rfl, rfl⟩ := hq)
         | (obtain ⟨Z', rfl, rfl, hI2, hk2, hP⟩ := hq; (try replace hP : _ ∧ _ := hP); (try dsimp only at hk2); (try dsimp only at hP); have hF := kp_loG (b := 86) hk2 (by rfl) (by decide); (try dsimp only at hF); (try have hFr : ∀ o, o < 86 → Z' o = Z o := fun o ho => (hF o (by omega)).trans (by (repeat (first | ((with_reducible show upZ _ _ _ _ _ = _); refine (upo (by omega)).trans ?_) | ((with_reducible show zrZ _ _ _ = _); refine (zro (by omega)).trans ?_) | fail)); (first | exact hFr o (by omega) | rfl))))
         | (obtain ⟨Z', rfl, rfl, hI2, hF, hV⟩ := hq; (try dsimp only at hF hV); (try have hFr : ∀ o, o < 86 → Z' o = Z o := fun o ho => (hF o (by omega)).trans (by (repeat (first | ((with_reducible show upZ _ _ _ _ _ = _); refine (upo (by omega)).trans ?_) | ((with_reducible show zrZ _ _ _ = _); refine (zro (by omega)).trans ?_) | fail)); (first | exact hFr o (by omega) | rfl))))
         | (obtain ⟨Z', rfl, rfl, hI2, hk2⟩ := hq; have hF := kp_loG (b := 86) hk2 (by rfl) (by decide); (try dsimp only at hF); (try have hFr : ∀ o, o < 86 → Z' o = Z o := fun o ho => (hF o (by omega)).trans (by (repeat (first | ((with_reducible show upZ _ _ _ _ _ = _); refine (upo (by omega)).trans ?_) | ((with_reducible show zrZ _ _ _ = _); refine (zro (by omega)).trans ?_) | fail)); (first | exact hFr o (by omega) | rfl))))
         | (obtain ⟨Z', rfl, rfl, hI2⟩ := hq))
      | (intro hc; (try simp only [cmp3_c] at hc); simp only [cmpI] at hc; first | (exfalso; revert hc; decide; done) | skip))
    all_goals first
      | with_reducible rfl
      | ((with_reducible show recvG _ _); rfl)
      | trivial
      | decide
      | ((with_reducible show preT _ _ _); show _ = RT _; (repeat (first | ((with_reducible show upR _ _ _ _ = _); refine up_RT ?_ (by decide +kernel)) | ((with_reducible show zrR _ _ = _); refine zr_RT ?_ (by decide +kernel)) | exact congrArg RT (by decide) | fail)))
      | ((with_reducible show _ = RT _); (repeat (first | ((with_reducible show upR _ _ _ _ = _); refine up_RT ?_ (by decide +kernel)) | ((with_reducible show zrR _ _ = _); refine zr_RT ?_ (by decide +kernel)) | exact congrArg RT (by decide) | fail)))
      | ((with_reducible show _ = R0); refine Eq.trans (b := RT 128) ?_ RT_all; (repeat (first | ((with_reducible show upR _ _ _ _ = _); refine up_RT ?_ (by decide +kernel)) | ((with_reducible show zrR _ _ = _); refine zr_RT ?_ (by decide +kernel)) | exact congrArg RT (by decide) | fail)))
      | ((with_reducible show CI _); (repeat (first | with_reducible assumption | ((with_reducible refine cix_m ?_ ?_) <;> assumption) | ((with_reducible refine cix_b70 (by assumption) ?_ ?_ ?_) <;> decide) | ((with_reducible refine cix_b72 (by assumption) ?_ ?_ ?_) <;> decide) | ((with_reducible refine cix_b74 (by assumption) ?_ ?_ ?_) <;> decide) | ((with_reducible refine cix_b76 (by assumption) ?_ ?_ ?_) <;> decide) | ((with_reducible show CI (zrZ _ _)); refine ci_zr ?_ (by decide +kernel)) | ((with_reducible show CI (upZ _ _ _ _)); refine ci_up ?_ (fun lo hi hb => by first | (cases hb; done) | (cases hb; exact ⟨by decide, by decide⟩))) | fail)))
      | ((with_reducible show CIx _ _); first | exact cix_of (by assumption) | assumption | exact cix_zr (by assumption) (by decide +kernel))
      | exact fun k => if_pos rfl
      | (show (0 : Int) ≤ 1872; decide)
      | (show (1872 : Int) ≤ 10000; decide)
      | (show (0 : Int) ≤ 468; decide)
      | (show (468 : Int) ≤ 10000; decide)
      | (refine Exists.intro _ (And.intro rfl (And.intro (Prod.ext rfl (Prod.ext rfl ?_)) ?_)); (first | (show _ = RT _; (repeat (first | ((with_reducible show upR _ _ _ _ = _); refine up_RT ?_ (by decide +kernel)) | ((with_reducible show zrR _ _ = _); refine zr_RT ?_ (by decide +kernel)) | exact congrArg RT (by decide) | fail))) | (show _ = R0; refine Eq.trans (b := RT 128) ?_ RT_all; (repeat (first | ((with_reducible show upR _ _ _ _ = _); refine up_RT ?_ (by decide +kernel)) | ((with_reducible show zrR _ _ = _); refine zr_RT ?_ (by decide +kernel)) | exact congrArg RT (by decide) | fail))) | rfl | fail); refine And.intro (by (repeat (first | with_reducible assumption | ((with_reducible refine cix_m ?_ ?_) <;> assumption) | ((with_reducible refine cix_b70 (by assumption) ?_ ?_ ?_) <;> decide) | ((with_reducible refine cix_b72 (by assumption) ?_ ?_ ?_) <;> decide) | ((with_reducible refine cix_b74 (by assumption) ?_ ?_ ?_) <;> decide) | ((with_reducible refine cix_b76 (by assumption) ?_ ?_ ?_) <;> decide) | ((with_reducible show CI (zrZ _ _)); refine ci_zr ?_ (by decide +kernel)) | ((with_reducible show CI (upZ _ _ _ _)); refine ci_up ?_ (fun lo hi hb => by first | (cases hb; done) | (cases hb; exact ⟨by decide, by decide⟩))) | fail))) (And.intro (fun o ho => by (repeat (first | ((with_reducible show upZ _ _ _ _ _ = _); refine (upo (by omega)).trans ?_) | ((with_reducible show zrZ _ _ _ = _); refine (zro (by omega)).trans ?_) | fail)); (first | exact hFr o (by omega) | rfl)) (by refine ⟨rfl, fun k hk => ?_⟩; rcases k with _ | _ | _ | _ | _ | _ | k <;> first | rfl | omega)))
      | rfl
      | omega
      | skip
def s_X1_initG : Sp := (1, 1, 5, fun as σ => match as with
    | [.inr (.inr a0)] => ((a0 = 80)) ∧ σ.1 = a0 ∧ σ.2.2 = RT (bX1 a0) ∧ CI σ.2.1 ∧ (∀ k, σ.2.1 a0 k = 0)
    | _ => False, fun as σ r σ' => match as with
    | [.inr (.inr a0)] => ∃ Z' : ZT, r = none ∧ σ' = (a0 + 5, Z', RT (eX1 a0)) ∧ CI Z' ∧ (∀ o, o < a0 → Z' o = σ.2.1 o) ∧ (FV80 Z')
    | _ => False)
set_option maxRecDepth 100000 in
set_option maxHeartbeats 40000000 in
theorem c_X1_initG {l : Launch} {D : va_G} {cA : Nat → ClassId} : PM l D cA yX1_init cX1_init 1 none 1 21 s_X1_initG := by
  refine of_X1_init (c_X1_clearToldTG) ⟨rfl, rfl⟩ (fun as σ hwf hao hpre => ?_)
  obtain ⟨n, Z, R⟩ := σ
  rcases as with _ | ⟨x | x | a0, _ | ⟨v, t⟩⟩ <;> first | exact (hpre : False).elim | skip
  obtain ⟨h0, hn, hR, hI, hz⟩ := hpre
  refine ⟨Nat.le_of_ble_eq_true rfl, fun G hG => ?_⟩
  clear hao hwf
  rcases h0 with rfl
  · obtain rfl : n = 80 := hn
    obtain rfl : R = RT 78 := hR
    have hFr : ∀ o, o < 81 → Z o = Z o := fun _ _ => rfl
    have hz : ∀ k, Z 80 k = 0 := hz
    refine wp_run hG [] 400 _ _ _ _ ?_
    repeat' (first
      | with_reducible rfl
      | (refine And.intro ?_ ?_ <;> (try dsimp only))
      | (intro (r : Option PV) σ' hq
         first
         | (obtain ⟨rfl, rfl⟩ := hq)
         | (obtain ⟨Z', rfl, rfl, hI2, hk2, hP⟩ := hq; (try replace hP : _ ∧ _ := hP); (try dsimp only at hk2); (try dsimp only at hP); have hF := kp_loG (b := 80) hk2 (by rfl) (by decide); (try dsimp only at hF); (try have hFr : ∀ o, o < 80 → Z' o = Z o := fun o ho => (hF o (by omega)).trans (by (repeat (first | ((with_reducible show upZ _ _ _ _ _ = _); refine (upo (by omega)).trans ?_) | ((with_reducible show zrZ _ _ _ = _); refine (zro (by omega)).trans ?_) | fail)); (first | exact hFr o (by omega) | rfl))))
         | (obtain ⟨Z', rfl, rfl, hI2, hF, hV⟩ := hq; (try dsimp only at hF hV); (try have hFr : ∀ o, o < 80 → Z' o = Z o := fun o ho => (hF o (by omega)).trans (by (repeat (first | ((with_reducible show upZ _ _ _ _ _ = _); refine (upo (by omega)).trans ?_) | ((with_reducible show zrZ _ _ _ = _); refine (zro (by omega)).trans ?_) | fail)); (first | exact hFr o (by omega) | rfl))))
         | (obtain ⟨Z', rfl, rfl, hI2, hk2⟩ := hq; have hF := kp_loG (b := 80) hk2 (by rfl) (by decide); (try dsimp only at hF); (try have hFr : ∀ o, o < 80 → Z' o = Z o := fun o ho => (hF o (by omega)).trans (by (repeat (first | ((with_reducible show upZ _ _ _ _ _ = _); refine (upo (by omega)).trans ?_) | ((with_reducible show zrZ _ _ _ = _); refine (zro (by omega)).trans ?_) | fail)); (first | exact hFr o (by omega) | rfl))))
         | (obtain ⟨Z', rfl, rfl, hI2⟩ := hq))
      | (intro hc; (try simp only [cmp3_c] at hc); simp only [cmpI] at hc; first | (exfalso; revert hc; decide; done) | skip))
    all_goals first
      | with_reducible rfl
      | ((with_reducible show recvG _ _); rfl)
      | trivial
      | decide
      | ((with_reducible show preT _ _ _); show _ = RT _; (repeat (first | ((with_reducible show upR _ _ _ _ = _); refine up_RT ?_ (by decide +kernel)) | ((with_reducible show zrR _ _ = _); refine zr_RT ?_ (by decide +kernel)) | exact congrArg RT (by decide) | fail)))
      | ((with_reducible show _ = RT _); (repeat (first | ((with_reducible show upR _ _ _ _ = _); refine up_RT ?_ (by decide +kernel)) | ((with_reducible show zrR _ _ = _); refine zr_RT ?_ (by decide +kernel)) | exact congrArg RT (by decide) | fail)))
      | ((with_reducible show _ = R0); refine Eq.trans (b := RT 128) ?_ RT_all; (repeat (first | ((with_reducible show upR _ _ _ _ = _); refine up_RT ?_ (by decide +kernel)) | ((with_reducible show zrR _ _ = _); refine zr_RT ?_ (by decide +kernel)) | exact congrArg RT (by decide) | fail)))
      | ((with_reducible show CI _); (repeat (first | with_reducible assumption | ((with_reducible refine cix_m ?_ ?_) <;> assumption) | ((with_reducible refine cix_b70 (by assumption) ?_ ?_ ?_) <;> decide) | ((with_reducible refine cix_b72 (by assumption) ?_ ?_ ?_) <;> decide) | ((with_reducible refine cix_b74 (by assumption) ?_ ?_ ?_) <;> decide) | ((with_reducible refine cix_b76 (by assumption) ?_ ?_ ?_) <;> decide) | ((with_reducible show CI (zrZ _ _)); refine ci_zr ?_ (by decide +kernel)) | ((with_reducible show CI (upZ _ _ _ _)); refine ci_up ?_ (fun lo hi hb => by first | (cases hb; done) | (cases hb; exact ⟨by decide, by decide⟩))) | fail)))
      | ((with_reducible show CIx _ _); first | exact cix_of (by assumption) | assumption | exact cix_zr (by assumption) (by decide +kernel))
      | exact fun k => if_pos rfl
      | (show (0 : Int) ≤ 1872; decide)
      | (show (1872 : Int) ≤ 10000; decide)
      | (show (0 : Int) ≤ 468; decide)
      | (show (468 : Int) ≤ 10000; decide)
      | (refine Exists.intro _ (And.intro rfl (And.intro (Prod.ext rfl (Prod.ext rfl ?_)) ?_)); (first | (show _ = RT _; (repeat (first | ((with_reducible show upR _ _ _ _ = _); refine up_RT ?_ (by decide +kernel)) | ((with_reducible show zrR _ _ = _); refine zr_RT ?_ (by decide +kernel)) | exact congrArg RT (by decide) | fail))) | (show _ = R0; refine Eq.trans (b := RT 128) ?_ RT_all; (repeat (first | ((with_reducible show upR _ _ _ _ = _); refine up_RT ?_ (by decide +kernel)) | ((with_reducible show zrR _ _ = _); refine zr_RT ?_ (by decide +kernel)) | exact congrArg RT (by decide) | fail))) | rfl | fail); refine And.intro (by (repeat (first | with_reducible assumption | ((with_reducible refine cix_m ?_ ?_) <;> assumption) | ((with_reducible refine cix_b70 (by assumption) ?_ ?_ ?_) <;> decide) | ((with_reducible refine cix_b72 (by assumption) ?_ ?_ ?_) <;> decide) | ((with_reducible refine cix_b74 (by assumption) ?_ ?_ ?_) <;> decide) | ((with_reducible refine cix_b76 (by assumption) ?_ ?_ ?_) <;> decide) | ((with_reducible show CI (zrZ _ _)); refine ci_zr ?_ (by decide +kernel)) | ((with_reducible show CI (upZ _ _ _ _)); refine ci_up ?_ (fun lo hi hb => by first | (cases hb; done) | (cases hb; exact ⟨by decide, by decide⟩))) | fail))) (And.intro (fun o ho => by (repeat (first | ((with_reducible show upZ _ _ _ _ _ = _); refine (upo (by omega)).trans ?_) | ((with_reducible show zrZ _ _ _ = _); refine (zro (by omega)).trans ?_) | fail)); (first | exact hFr o (by omega) | rfl)) (by exact ⟨hP.1, hP.2.1, (congrFun (kp_av (o := 80) hk2 (by rfl) (by decide)) 0).trans (hz 0), (congrFun (kp_av (o := 80) hk2 (by rfl) (by decide)) 1).trans (hz 1), fun k => (congrFun (kp_av (o := 85) hk2 (by rfl) (by decide)) k).trans rfl⟩)))
      | rfl
      | omega
      | skip
def s_X3_initG : Sp := (3, 3, 1, fun as σ => match as with
    | [.inr (.inr a0), .inl a1, .inl a2] => ((a0 = 2 ∧ a1 = 3 ∧ a2 = 3) ∨ (a0 = 4 ∧ a1 = 1 ∧ a2 = 1)) ∧ σ.1 = a0 ∧ σ.2.2 = RT (bX3 a0) ∧ CIx a0 σ.2.1
    | _ => False, fun as σ r σ' => match as with
    | [.inr (.inr a0), .inl a1, .inl a2] => ∃ Z' : ZT, r = none ∧ σ' = (a0 + 1, Z', RT (eX3 a0)) ∧ CI Z' ∧ (∀ o, o < a0 → Z' o = σ.2.1 o) ∧ (a0 = 2 → FV2 Z')
    | _ => False)
set_option maxRecDepth 100000 in
set_option maxHeartbeats 40000000 in
theorem c_X3_initG {l : Launch} {D : va_G} {cA : Nat → ClassId} : PM l D cA yX3_init cX3_init 3 none 2 52 s_X3_initG := by
  refine of_X3_init (c_X3_shapeTG) ⟨rfl, rfl⟩ (fun as σ hwf hao hpre => ?_)
  obtain ⟨n, Z, R⟩ := σ
  rcases as with _ | ⟨x | x | a0, _ | ⟨a1 | x | x, _ | ⟨a2 | x | x, _ | ⟨v, t⟩⟩⟩⟩ <;> first | exact (hpre : False).elim | skip
  obtain ⟨h0, hn, hR, hI⟩ := hpre
  refine ⟨Nat.le_of_ble_eq_true rfl, fun G hG => ?_⟩
  clear hao hwf
  rcases h0 with ⟨rfl, rfl, rfl⟩ | ⟨rfl, rfl, rfl⟩
  · obtain rfl : n = 2 := hn
    obtain rfl : R = RT 0 := hR
    have hFr : ∀ o, o < 3 → Z o = Z o := fun _ _ => rfl
    have hI : CIx 2 Z := hI
    refine wp_run hG [] 400 _ _ _ _ ?_
    repeat' (first
      | with_reducible rfl
      | (refine And.intro ?_ ?_ <;> (try dsimp only))
      | (intro (r : Option PV) σ' hq
         first
         | (obtain ⟨rfl, rfl⟩ := hq)
         | (obtain ⟨Z', rfl, rfl, hI2, hk2, hP⟩ := hq; (try replace hP : _ ∧ _ := hP); (try dsimp only at hk2); (try dsimp only at hP); have hF := kp_loG (b := 2) hk2 (by rfl) (by decide); (try dsimp only at hF); (try have hFr : ∀ o, o < 2 → Z' o = Z o := fun o ho => (hF o (by omega)).trans (by (repeat (first | ((with_reducible show upZ _ _ _ _ _ = _); refine (upo (by omega)).trans ?_) | ((with_reducible show zrZ _ _ _ = _); refine (zro (by omega)).trans ?_) | fail)); (first | exact hFr o (by omega) | rfl))))
         | (obtain ⟨Z', rfl, rfl, hI2, hF, hV⟩ := hq; (try dsimp only at hF hV); (try have hFr : ∀ o, o < 2 → Z' o = Z o := fun o ho => (hF o (by omega)).trans (by (repeat (first | ((with_reducible show upZ _ _ _ _ _ = _); refine (upo (by omega)).trans ?_) | ((with_reducible show zrZ _ _ _ = _); refine (zro (by omega)).trans ?_) | fail)); (first | exact hFr o (by omega) | rfl))))
         | (obtain ⟨Z', rfl, rfl, hI2, hk2⟩ := hq; have hF := kp_loG (b := 2) hk2 (by rfl) (by decide); (try dsimp only at hF); (try have hFr : ∀ o, o < 2 → Z' o = Z o := fun o ho => (hF o (by omega)).trans (by (repeat (first | ((with_reducible show upZ _ _ _ _ _ = _); refine (upo (by omega)).trans ?_) | ((with_reducible show zrZ _ _ _ = _); refine (zro (by omega)).trans ?_) | fail)); (first | exact hFr o (by omega) | rfl))))
         | (obtain ⟨Z', rfl, rfl, hI2⟩ := hq))
      | (intro hc; (try simp only [cmp3_c] at hc); simp only [cmpI] at hc; first | (exfalso; revert hc; decide; done) | skip))
    all_goals first
      | with_reducible rfl
      | ((with_reducible show recvG _ _); rfl)
      | trivial
      | decide
      | ((with_reducible show preT _ _ _); show _ = RT _; (repeat (first | ((with_reducible show upR _ _ _ _ = _); refine up_RT ?_ (by decide +kernel)) | ((with_reducible show zrR _ _ = _); refine zr_RT ?_ (by decide +kernel)) | exact congrArg RT (by decide) | fail)))
      | ((with_reducible show _ = RT _); (repeat (first | ((with_reducible show upR _ _ _ _ = _); refine up_RT ?_ (by decide +kernel)) | ((with_reducible show zrR _ _ = _); refine zr_RT ?_ (by decide +kernel)) | exact congrArg RT (by decide) | fail)))
      | ((with_reducible show _ = R0); refine Eq.trans (b := RT 128) ?_ RT_all; (repeat (first | ((with_reducible show upR _ _ _ _ = _); refine up_RT ?_ (by decide +kernel)) | ((with_reducible show zrR _ _ = _); refine zr_RT ?_ (by decide +kernel)) | exact congrArg RT (by decide) | fail)))
      | ((with_reducible show CI _); (repeat (first | with_reducible assumption | ((with_reducible refine cix_m ?_ ?_) <;> assumption) | ((with_reducible refine cix_b70 (by assumption) ?_ ?_ ?_) <;> decide) | ((with_reducible refine cix_b72 (by assumption) ?_ ?_ ?_) <;> decide) | ((with_reducible refine cix_b74 (by assumption) ?_ ?_ ?_) <;> decide) | ((with_reducible refine cix_b76 (by assumption) ?_ ?_ ?_) <;> decide) | ((with_reducible show CI (zrZ _ _)); refine ci_zr ?_ (by decide +kernel)) | ((with_reducible show CI (upZ _ _ _ _)); refine ci_up ?_ (fun lo hi hb => by first | (cases hb; done) | (cases hb; exact ⟨by decide, by decide⟩))) | fail)))
      | ((with_reducible show CIx _ _); first | exact cix_of (by assumption) | assumption | exact cix_zr (by assumption) (by decide +kernel))
      | exact fun k => if_pos rfl
      | (show (0 : Int) ≤ 1872; decide)
      | (show (1872 : Int) ≤ 10000; decide)
      | (show (0 : Int) ≤ 468; decide)
      | (show (468 : Int) ≤ 10000; decide)
      | (refine Exists.intro _ (And.intro rfl (And.intro (Prod.ext rfl (Prod.ext rfl ?_)) ?_)); (first | (show _ = RT _; (repeat (first | ((with_reducible show upR _ _ _ _ = _); refine up_RT ?_ (by decide +kernel)) | ((with_reducible show zrR _ _ = _); refine zr_RT ?_ (by decide +kernel)) | exact congrArg RT (by decide) | fail))) | (show _ = R0; refine Eq.trans (b := RT 128) ?_ RT_all; (repeat (first | ((with_reducible show upR _ _ _ _ = _); refine up_RT ?_ (by decide +kernel)) | ((with_reducible show zrR _ _ = _); refine zr_RT ?_ (by decide +kernel)) | exact congrArg RT (by decide) | fail))) | rfl | fail); refine And.intro (by (repeat (first | with_reducible assumption | ((with_reducible refine cix_m ?_ ?_) <;> assumption) | ((with_reducible refine cix_b70 (by assumption) ?_ ?_ ?_) <;> decide) | ((with_reducible refine cix_b72 (by assumption) ?_ ?_ ?_) <;> decide) | ((with_reducible refine cix_b74 (by assumption) ?_ ?_ ?_) <;> decide) | ((with_reducible refine cix_b76 (by assumption) ?_ ?_ ?_) <;> decide) | ((with_reducible show CI (zrZ _ _)); refine ci_zr ?_ (by decide +kernel)) | ((with_reducible show CI (upZ _ _ _ _)); refine ci_up ?_ (fun lo hi hb => by first | (cases hb; done) | (cases hb; exact ⟨by decide, by decide⟩))) | fail))) (And.intro (fun o ho => by (repeat (first | ((with_reducible show upZ _ _ _ _ _ = _); refine (upo (by omega)).trans ?_) | ((with_reducible show zrZ _ _ _ = _); refine (zro (by omega)).trans ?_) | fail)); (first | exact hFr o (by omega) | rfl)) (by exact fun _ => ⟨hP.1, hP.2.1, hP.2.2.1 rfl, hP.2.2.2.1⟩)))
      | rfl
      | omega
      | skip
  · obtain rfl : n = 4 := hn
    obtain rfl : R = RT 2 := hR
    have hFr : ∀ o, o < 5 → Z o = Z o := fun _ _ => rfl
    have hI : CIx 4 Z := hI
    refine wp_run hG [] 400 _ _ _ _ ?_
    repeat' (first
      | with_reducible rfl
      | (refine And.intro ?_ ?_ <;> (try dsimp only))
      | (intro (r : Option PV) σ' hq
         first
         | (obtain ⟨rfl, rfl⟩ := hq)
         | (obtain ⟨Z', rfl, rfl, hI2, hk2, hP⟩ := hq; (try replace hP : _ ∧ _ := hP); (try dsimp only at hk2); (try dsimp only at hP); have hF := kp_loG (b := 4) hk2 (by rfl) (by decide); (try dsimp only at hF); (try have hFr : ∀ o, o < 4 → Z' o = Z o := fun o ho => (hF o (by omega)).trans (by (repeat (first | ((with_reducible show upZ _ _ _ _ _ = _); refine (upo (by omega)).trans ?_) | ((with_reducible show zrZ _ _ _ = _); refine (zro (by omega)).trans ?_) | fail)); (first | exact hFr o (by omega) | rfl))))
         | (obtain ⟨Z', rfl, rfl, hI2, hF, hV⟩ := hq; (try dsimp only at hF hV); (try have hFr : ∀ o, o < 4 → Z' o = Z o := fun o ho => (hF o (by omega)).trans (by (repeat (first | ((with_reducible show upZ _ _ _ _ _ = _); refine (upo (by omega)).trans ?_) | ((with_reducible show zrZ _ _ _ = _); refine (zro (by omega)).trans ?_) | fail)); (first | exact hFr o (by omega) | rfl))))
         | (obtain ⟨Z', rfl, rfl, hI2, hk2⟩ := hq; have hF := kp_loG (b := 4) hk2 (by rfl) (by decide); (try dsimp only at hF); (try have hFr : ∀ o, o < 4 → Z' o = Z o := fun o ho => (hF o (by omega)).trans (by (repeat (first | ((with_reducible show upZ _ _ _ _ _ = _); refine (upo (by omega)).trans ?_) | ((with_reducible show zrZ _ _ _ = _); refine (zro (by omega)).trans ?_) | fail)); (first | exact hFr o (by omega) | rfl))))
         | (obtain ⟨Z', rfl, rfl, hI2⟩ := hq))
      | (intro hc; (try simp only [cmp3_c] at hc); simp only [cmpI] at hc; first | (exfalso; revert hc; decide; done) | skip))
    all_goals first
      | with_reducible rfl
      | ((with_reducible show recvG _ _); rfl)
      | trivial
      | decide
      | ((with_reducible show preT _ _ _); show _ = RT _; (repeat (first | ((with_reducible show upR _ _ _ _ = _); refine up_RT ?_ (by decide +kernel)) | ((with_reducible show zrR _ _ = _); refine zr_RT ?_ (by decide +kernel)) | exact congrArg RT (by decide) | fail)))
      | ((with_reducible show _ = RT _); (repeat (first | ((with_reducible show upR _ _ _ _ = _); refine up_RT ?_ (by decide +kernel)) | ((with_reducible show zrR _ _ = _); refine zr_RT ?_ (by decide +kernel)) | exact congrArg RT (by decide) | fail)))
      | ((with_reducible show _ = R0); refine Eq.trans (b := RT 128) ?_ RT_all; (repeat (first | ((with_reducible show upR _ _ _ _ = _); refine up_RT ?_ (by decide +kernel)) | ((with_reducible show zrR _ _ = _); refine zr_RT ?_ (by decide +kernel)) | exact congrArg RT (by decide) | fail)))
      | ((with_reducible show CI _); (repeat (first | with_reducible assumption | ((with_reducible refine cix_m ?_ ?_) <;> assumption) | ((with_reducible refine cix_b70 (by assumption) ?_ ?_ ?_) <;> decide) | ((with_reducible refine cix_b72 (by assumption) ?_ ?_ ?_) <;> decide) | ((with_reducible refine cix_b74 (by assumption) ?_ ?_ ?_) <;> decide) | ((with_reducible refine cix_b76 (by assumption) ?_ ?_ ?_) <;> decide) | ((with_reducible show CI (zrZ _ _)); refine ci_zr ?_ (by decide +kernel)) | ((with_reducible show CI (upZ _ _ _ _)); refine ci_up ?_ (fun lo hi hb => by first | (cases hb; done) | (cases hb; exact ⟨by decide, by decide⟩))) | fail)))
      | ((with_reducible show CIx _ _); first | exact cix_of (by assumption) | assumption | exact cix_zr (by assumption) (by decide +kernel))
      | exact fun k => if_pos rfl
      | (show (0 : Int) ≤ 1872; decide)
      | (show (1872 : Int) ≤ 10000; decide)
      | (show (0 : Int) ≤ 468; decide)
      | (show (468 : Int) ≤ 10000; decide)
      | (refine Exists.intro _ (And.intro rfl (And.intro (Prod.ext rfl (Prod.ext rfl ?_)) ?_)); (first | (show _ = RT _; (repeat (first | ((with_reducible show upR _ _ _ _ = _); refine up_RT ?_ (by decide +kernel)) | ((with_reducible show zrR _ _ = _); refine zr_RT ?_ (by decide +kernel)) | exact congrArg RT (by decide) | fail))) | (show _ = R0; refine Eq.trans (b := RT 128) ?_ RT_all; (repeat (first | ((with_reducible show upR _ _ _ _ = _); refine up_RT ?_ (by decide +kernel)) | ((with_reducible show zrR _ _ = _); refine zr_RT ?_ (by decide +kernel)) | exact congrArg RT (by decide) | fail))) | rfl | fail); refine And.intro (by (repeat (first | with_reducible assumption | ((with_reducible refine cix_m ?_ ?_) <;> assumption) | ((with_reducible refine cix_b70 (by assumption) ?_ ?_ ?_) <;> decide) | ((with_reducible refine cix_b72 (by assumption) ?_ ?_ ?_) <;> decide) | ((with_reducible refine cix_b74 (by assumption) ?_ ?_ ?_) <;> decide) | ((with_reducible refine cix_b76 (by assumption) ?_ ?_ ?_) <;> decide) | ((with_reducible show CI (zrZ _ _)); refine ci_zr ?_ (by decide +kernel)) | ((with_reducible show CI (upZ _ _ _ _)); refine ci_up ?_ (fun lo hi hb => by first | (cases hb; done) | (cases hb; exact ⟨by decide, by decide⟩))) | fail))) (And.intro (fun o ho => by (repeat (first | ((with_reducible show upZ _ _ _ _ _ = _); refine (upo (by omega)).trans ?_) | ((with_reducible show zrZ _ _ _ = _); refine (zro (by omega)).trans ?_) | fail)); (first | exact hFr o (by omega) | rfl)) (by exact fun h => absurd h (by decide))))
      | rfl
      | omega
      | skip
def s_X0_initG : Sp := (3, 0, 1, fun as σ => match as with
    | [.inr (.inr a0), .inl a1, .inl a2] => ((a0 = 70 ∧ a1 = 36 ∧ a2 = 0) ∨ (a0 = 72 ∧ a1 = 36 ∧ a2 = 1) ∨ (a0 = 74 ∧ a1 = 36 ∧ a2 = 1) ∨ (a0 = 76 ∧ a1 = 9 ∧ a2 = 0)) ∧ σ.1 = a0 ∧ σ.2.2 = RT (bX0 a0) ∧ CIx a0 σ.2.1
    | _ => False, fun as σ r σ' => match as with
    | [.inr (.inr a0), .inl a1, .inl a2] => ∃ Z' : ZT, r = none ∧ σ' = (a0 + 1, Z', RT (eX0 a0)) ∧ CI Z' ∧ (∀ o, o < a0 → Z' o = σ.2.1 o) ∧ (Z' a0 4 = -1 ∧ Z' a0 0 = (if a0 = 76 then 9 else 36) ∧ Z' a0 1 = (if a0 = 72 ∨ a0 = 74 then 1 else 0) ∧ Z' a0 3 = -1)
    | _ => False)
set_option maxRecDepth 100000 in
set_option maxHeartbeats 40000000 in
theorem c_X0_initG {l : Launch} {D : va_G} {cA : Nat → ClassId} : PM l D cA yX0_init cX0_init 3 none 1 21 s_X0_initG := by
  refine of_X0_init (c_J9_min) ⟨rfl, rfl⟩ (c_J9_max) ⟨rfl, rfl⟩ (fun as σ hwf hao hpre => ?_)
  obtain ⟨n, Z, R⟩ := σ
  rcases as with _ | ⟨x | x | a0, _ | ⟨a1 | x | x, _ | ⟨a2 | x | x, _ | ⟨v, t⟩⟩⟩⟩ <;> first | exact (hpre : False).elim | skip
  obtain ⟨h0, hn, hR, hI⟩ := hpre
  refine ⟨Nat.le_of_ble_eq_true rfl, fun G hG => ?_⟩
  clear hao hwf
  rcases h0 with ⟨rfl, rfl, rfl⟩ | ⟨rfl, rfl, rfl⟩ | ⟨rfl, rfl, rfl⟩ | ⟨rfl, rfl, rfl⟩
  · obtain rfl : n = 70 := hn
    obtain rfl : R = RT 68 := hR
    have hFr : ∀ o, o < 71 → Z o = Z o := fun _ _ => rfl
    have hI : CIx 70 Z := hI
    refine wp_run hG [] 400 _ _ _ _ ?_
    repeat' (first
      | with_reducible rfl
      | (refine And.intro ?_ ?_ <;> (try dsimp only))
      | (intro (r : Option PV) σ' hq
         first
         | (obtain ⟨rfl, rfl⟩ := hq)
         | (obtain ⟨Z', rfl, rfl, hI2, hk2, hP⟩ := hq; (try replace hP : _ ∧ _ := hP); (try dsimp only at hk2); (try dsimp only at hP); have hF := kp_loG (b := 70) hk2 (by rfl) (by decide); (try dsimp only at hF); (try have hFr : ∀ o, o < 70 → Z' o = Z o := fun o ho => (hF o (by omega)).trans (by (repeat (first | ((with_reducible show upZ _ _ _ _ _ = _); refine (upo (by omega)).trans ?_) | ((with_reducible show zrZ _ _ _ = _); refine (zro (by omega)).trans ?_) | fail)); (first | exact hFr o (by omega) | rfl))))
         | (obtain ⟨Z', rfl, rfl, hI2, hF, hV⟩ := hq; (try dsimp only at hF hV); (try have hFr : ∀ o, o < 70 → Z' o = Z o := fun o ho => (hF o (by omega)).trans (by (repeat (first | ((with_reducible show upZ _ _ _ _ _ = _); refine (upo (by omega)).trans ?_) | ((with_reducible show zrZ _ _ _ = _); refine (zro (by omega)).trans ?_) | fail)); (first | exact hFr o (by omega) | rfl))))
         | (obtain ⟨Z', rfl, rfl, hI2, hk2⟩ := hq; have hF := kp_loG (b := 70) hk2 (by rfl) (by decide); (try dsimp only at hF); (try have hFr : ∀ o, o < 70 → Z' o = Z o := fun o ho => (hF o (by omega)).trans (by (repeat (first | ((with_reducible show upZ _ _ _ _ _ = _); refine (upo (by omega)).trans ?_) | ((with_reducible show zrZ _ _ _ = _); refine (zro (by omega)).trans ?_) | fail)); (first | exact hFr o (by omega) | rfl))))
         | (obtain ⟨Z', rfl, rfl, hI2⟩ := hq))
      | (intro hc; (try simp only [cmp3_c] at hc); simp only [cmpI] at hc; first | (exfalso; revert hc; decide; done) | skip))
    all_goals first
      | with_reducible rfl
      | ((with_reducible show recvG _ _); rfl)
      | trivial
      | decide
      | ((with_reducible show preT _ _ _); show _ = RT _; (repeat (first | ((with_reducible show upR _ _ _ _ = _); refine up_RT ?_ (by decide +kernel)) | ((with_reducible show zrR _ _ = _); refine zr_RT ?_ (by decide +kernel)) | exact congrArg RT (by decide) | fail)))
      | ((with_reducible show _ = RT _); (repeat (first | ((with_reducible show upR _ _ _ _ = _); refine up_RT ?_ (by decide +kernel)) | ((with_reducible show zrR _ _ = _); refine zr_RT ?_ (by decide +kernel)) | exact congrArg RT (by decide) | fail)))
      | ((with_reducible show _ = R0); refine Eq.trans (b := RT 128) ?_ RT_all; (repeat (first | ((with_reducible show upR _ _ _ _ = _); refine up_RT ?_ (by decide +kernel)) | ((with_reducible show zrR _ _ = _); refine zr_RT ?_ (by decide +kernel)) | exact congrArg RT (by decide) | fail)))
      | ((with_reducible show CI _); (repeat (first | with_reducible assumption | ((with_reducible refine cix_m ?_ ?_) <;> assumption) | ((with_reducible refine cix_b70 (by assumption) ?_ ?_ ?_) <;> decide) | ((with_reducible refine cix_b72 (by assumption) ?_ ?_ ?_) <;> decide) | ((with_reducible refine cix_b74 (by assumption) ?_ ?_ ?_) <;> decide) | ((with_reducible refine cix_b76 (by assumption) ?_ ?_ ?_) <;> decide) | ((with_reducible show CI (zrZ _ _)); refine ci_zr ?_ (by decide +kernel)) | ((with_reducible show CI (upZ _ _ _ _)); refine ci_up ?_ (fun lo hi hb => by first | (cases hb; done) | (cases hb; exact ⟨by decide, by decide⟩))) | fail)))
      | ((with_reducible show CIx _ _); first | exact cix_of (by assumption) | assumption | exact cix_zr (by assumption) (by decide +kernel))
      | exact fun k => if_pos rfl
      | (show (0 : Int) ≤ 1872; decide)
      | (show (1872 : Int) ≤ 10000; decide)
      | (show (0 : Int) ≤ 468; decide)
      | (show (468 : Int) ≤ 10000; decide)
      | (refine Exists.intro _ (And.intro rfl (And.intro (Prod.ext rfl (Prod.ext rfl ?_)) ?_)); (first | (show _ = RT _; (repeat (first | ((with_reducible show upR _ _ _ _ = _); refine up_RT ?_ (by decide +kernel)) | ((with_reducible show zrR _ _ = _); refine zr_RT ?_ (by decide +kernel)) | exact congrArg RT (by decide) | fail))) | (show _ = R0; refine Eq.trans (b := RT 128) ?_ RT_all; (repeat (first | ((with_reducible show upR _ _ _ _ = _); refine up_RT ?_ (by decide +kernel)) | ((with_reducible show zrR _ _ = _); refine zr_RT ?_ (by decide +kernel)) | exact congrArg RT (by decide) | fail))) | rfl | fail); refine And.intro (by (repeat (first | with_reducible assumption | ((with_reducible refine cix_m ?_ ?_) <;> assumption) | ((with_reducible refine cix_b70 (by assumption) ?_ ?_ ?_) <;> decide) | ((with_reducible refine cix_b72 (by assumption) ?_ ?_ ?_) <;> decide) | ((with_reducible refine cix_b74 (by assumption) ?_ ?_ ?_) <;> decide) | ((with_reducible refine cix_b76 (by assumption) ?_ ?_ ?_) <;> decide) | ((with_reducible show CI (zrZ _ _)); refine ci_zr ?_ (by decide +kernel)) | ((with_reducible show CI (upZ _ _ _ _)); refine ci_up ?_ (fun lo hi hb => by first | (cases hb; done) | (cases hb; exact ⟨by decide, by decide⟩))) | fail))) (And.intro (fun o ho => by (repeat (first | ((with_reducible show upZ _ _ _ _ _ = _); refine (upo (by omega)).trans ?_) | ((with_reducible show zrZ _ _ _ = _); refine (zro (by omega)).trans ?_) | fail)); (first | exact hFr o (by omega) | rfl)) (by exact ⟨rfl, rfl, rfl, rfl⟩)))
      | rfl
      | omega
      | skip
  · obtain rfl : n = 72 := hn
    obtain rfl : R = RT 70 := hR
    have hFr : ∀ o, o < 73 → Z o = Z o := fun _ _ => rfl
    have hI : CIx 72 Z := hI
    refine wp_run hG [] 400 _ _ _ _ ?_
    repeat' (first
      | with_reducible rfl
      | (refine And.intro ?_ ?_ <;> (try dsimp only))
      | (intro (r : Option PV) σ' hq
         first
         | (obtain ⟨rfl, rfl⟩ := hq)
         | (obtain ⟨Z', rfl, rfl, hI2, hk2, hP⟩ := hq; (try replace hP : _ ∧ _ := hP); (try dsimp only at hk2); (try dsimp only at hP); have hF := kp_loG (b := 72) hk2 (by rfl) (by decide); (try dsimp only at hF); (try have hFr : ∀ o, o < 72 → Z' o = Z o := fun o ho => (hF o (by omega)).trans (by (repeat (first | ((with_reducible show upZ _ _ _ _ _ = _); refine (upo (by omega)).trans ?_) | ((with_reducible show zrZ _ _ _ = _); refine (zro (by omega)).trans ?_) | fail)); (first | exact hFr o (by omega) | rfl))))
         | (obtain ⟨Z', rfl, rfl, hI2, hF, hV⟩ := hq; (try dsimp only at hF hV); (try have hFr : ∀ o, o < 72 → Z' o = Z o := fun o ho => (hF o (by omega)).trans (by (repeat (first | ((with_reducible show upZ _ _ _ _ _ = _); refine (upo (by omega)).trans ?_) | ((with_reducible show zrZ _ _ _ = _); refine (zro (by omega)).trans ?_) | fail)); (first | exact hFr o (by omega) | rfl))))
         | (obtain ⟨Z', rfl, rfl, hI2, hk2⟩ := hq; have hF := kp_loG (b := 72) hk2 (by rfl) (by decide); (try dsimp only at hF); (try have hFr : ∀ o, o < 72 → Z' o = Z o := fun o ho => (hF o (by omega)).trans (by (repeat (first | ((with_reducible show upZ _ _ _ _ _ = _); refine (upo (by omega)).trans ?_) | ((with_reducible show zrZ _ _ _ = _); refine (zro (by omega)).trans ?_) | fail)); (first | exact hFr o (by omega) | rfl))))
         | (obtain ⟨Z', rfl, rfl, hI2⟩ := hq))
      | (intro hc; (try simp only [cmp3_c] at hc); simp only [cmpI] at hc; first | (exfalso; revert hc; decide; done) | skip))
    all_goals first
      | with_reducible rfl
      | ((with_reducible show recvG _ _); rfl)
      | trivial
      | decide
      | ((with_reducible show preT _ _ _); show _ = RT _; (repeat (first | ((with_reducible show upR _ _ _ _ = _); refine up_RT ?_ (by decide +kernel)) | ((with_reducible show zrR _ _ = _); refine zr_RT ?_ (by decide +kernel)) | exact congrArg RT (by decide) | fail)))
      | ((with_reducible show _ = RT _); (repeat (first | ((with_reducible show upR _ _ _ _ = _); refine up_RT ?_ (by decide +kernel)) | ((with_reducible show zrR _ _ = _); refine zr_RT ?_ (by decide +kernel)) | exact congrArg RT (by decide) | fail)))
      | ((with_reducible show _ = R0); refine Eq.trans (b := RT 128) ?_ RT_all; (repeat (first | ((with_reducible show upR _ _ _ _ = _); refine up_RT ?_ (by decide +kernel)) | ((with_reducible show zrR _ _ = _); refine zr_RT ?_ (by decide +kernel)) | exact congrArg RT (by decide) | fail)))
      | ((with_reducible show CI _); (repeat (first | with_reducible assumption | ((with_reducible refine cix_m ?_ ?_) <;> assumption) | ((with_reducible refine cix_b70 (by assumption) ?_ ?_ ?_) <;> decide) | ((with_reducible refine cix_b72 (by assumption) ?_ ?_ ?_) <;> decide) | ((with_reducible refine cix_b74 (by assumption) ?_ ?_ ?_) <;> decide) | ((with_reducible refine cix_b76 (by assumption) ?_ ?_ ?_) <;> decide) | ((with_reducible show CI (zrZ _ _)); refine ci_zr ?_ (by decide +kernel)) | ((with_reducible show CI (upZ _ _ _ _)); refine ci_up ?_ (fun lo hi hb => by first | (cases hb; done) | (cases hb; exact ⟨by decide, by decide⟩))) | fail)))
      | ((with_reducible show CIx _ _); first | exact cix_of (by assumption) | assumption | exact cix_zr (by assumption) (by decide +kernel))
      | exact fun k => if_pos rfl
      | (show (0 : Int) ≤ 1872; decide)
      | (show (1872 : Int) ≤ 10000; decide)
      | (show (0 : Int) ≤ 468; decide)
      | (show (468 : Int) ≤ 10000; decide)
      | (refine Exists.intro _ (And.intro rfl (And.intro (Prod.ext rfl (Prod.ext rfl ?_)) ?_)); (first | (show _ = RT _; (repeat (first | ((with_reducible show upR _ _ _ _ = _); refine up_RT ?_ (by decide +kernel)) | ((with_reducible show zrR _ _ = _); refine zr_RT ?_ (by decide +kernel)) | exact congrArg RT (by decide) | fail))) | (show _ = R0; refine Eq.trans (b := RT 128) ?_ RT_all; (repeat (first | ((with_reducible show upR _ _ _ _ = _); refine up_RT ?_ (by decide +kernel)) | ((with_reducible show zrR _ _ = _); refine zr_RT ?_ (by decide +kernel)) | exact congrArg RT (by decide) | fail))) | rfl | fail); refine And.intro (by (repeat (first | with_reducible assumption | ((with_reducible refine cix_m ?_ ?_) <;> assumption) | ((with_reducible refine cix_b70 (by assumption) ?_ ?_ ?_) <;> decide) | ((with_reducible refine cix_b72 (by assumption) ?_ ?_ ?_) <;> decide) | ((with_reducible refine cix_b74 (by assumption) ?_ ?_ ?_) <;> decide) | ((with_reducible refine cix_b76 (by assumption) ?_ ?_ ?_) <;> decide) | ((with_reducible show CI (zrZ _ _)); refine ci_zr ?_ (by decide +kernel)) | ((with_reducible show CI (upZ _ _ _ _)); refine ci_up ?_ (fun lo hi hb => by first | (cases hb; done) | (cases hb; exact ⟨by decide, by decide⟩))) | fail))) (And.intro (fun o ho => by (repeat (first | ((with_reducible show upZ _ _ _ _ _ = _); refine (upo (by omega)).trans ?_) | ((with_reducible show zrZ _ _ _ = _); refine (zro (by omega)).trans ?_) | fail)); (first | exact hFr o (by omega) | rfl)) (by exact ⟨rfl, rfl, rfl, rfl⟩)))
      | rfl
      | omega
      | skip
  · obtain rfl : n = 74 := hn
    obtain rfl : R = RT 72 := hR
    have hFr : ∀ o, o < 75 → Z o = Z o := fun _ _ => rfl
    have hI : CIx 74 Z := hI
    refine wp_run hG [] 400 _ _ _ _ ?_
    repeat' (first
      | with_reducible rfl
      | (refine And.intro ?_ ?_ <;> (try dsimp only))
      | (intro (r : Option PV) σ' hq
         first
         | (obtain ⟨rfl, rfl⟩ := hq)
         | (obtain ⟨Z', rfl, rfl, hI2, hk2, hP⟩ := hq; (try replace hP : _ ∧ _ := hP); (try dsimp only at hk2); (try dsimp only at hP); have hF := kp_loG (b := 74) hk2 (by rfl) (by decide); (try dsimp only at hF); (try have hFr : ∀ o, o < 74 → Z' o = Z o := fun o ho => (hF o (by omega)).trans (by (repeat (first | ((with_reducible show upZ _ _ _ _ _ = _); refine (upo (by omega)).trans ?_) | ((with_reducible show zrZ _ _ _ = _); refine (zro (by omega)).trans ?_) | fail)); (first | exact hFr o (by omega) | rfl))))
         | (obtain ⟨Z', rfl, rfl, hI2, hF, hV⟩ := hq; (try dsimp only at hF hV); (try have hFr : ∀ o, o < 74 → Z' o = Z o := fun o ho => (hF o (by omega)).trans (by (repeat (first | ((with_reducible show upZ _ _ _ _ _ = _); refine (upo (by omega)).trans ?_) | ((with_reducible show zrZ _ _ _ = _); refine (zro (by omega)).trans ?_) | fail)); (first | exact hFr o (by omega) | rfl))))
         | (obtain ⟨Z', rfl, rfl, hI2, hk2⟩ := hq; have hF := kp_loG (b := 74) hk2 (by rfl) (by decide); (try dsimp only at hF); (try have hFr : ∀ o, o < 74 → Z' o = Z o := fun o ho => (hF o (by omega)).trans (by (repeat (first | ((with_reducible show upZ _ _ _ _ _ = _); refine (upo (by omega)).trans ?_) | ((with_reducible show zrZ _ _ _ = _); refine (zro (by omega)).trans ?_) | fail)); (first | exact hFr o (by omega) | rfl))))
         | (obtain ⟨Z', rfl, rfl, hI2⟩ := hq))
      | (intro hc; (try simp only [cmp3_c] at hc); simp only [cmpI] at hc; first | (exfalso; revert hc; decide; done) | skip))
    all_goals first
      | with_reducible rfl
      | ((with_reducible show recvG _ _); rfl)
      | trivial
      | decide
      | ((with_reducible show preT _ _ _); show _ = RT _; (repeat (first | ((with_reducible show upR _ _ _ _ = _); refine up_RT ?_ (by decide +kernel)) | ((with_reducible show zrR _ _ = _); refine zr_RT ?_ (by decide +kernel)) | exact congrArg RT (by decide) | fail)))
      | ((with_reducible show _ = RT _); (repeat (first | ((with_reducible show upR _ _ _ _ = _); refine up_RT ?_ (by decide +kernel)) | ((with_reducible show zrR _ _ = _); refine zr_RT ?_ (by decide +kernel)) | exact congrArg RT (by decide) | fail)))
      | ((with_reducible show _ = R0); refine Eq.trans (b := RT 128) ?_ RT_all; (repeat (first | ((with_reducible show upR _ _ _ _ = _); refine up_RT ?_ (by decide +kernel)) | ((with_reducible show zrR _ _ = _); refine zr_RT ?_ (by decide +kernel)) | exact congrArg RT (by decide) | fail)))
      | ((with_reducible show CI _); (repeat (first | with_reducible assumption | ((with_reducible refine cix_m ?_ ?_) <;> assumption) | ((with_reducible refine cix_b70 (by assumption) ?_ ?_ ?_) <;> decide) | ((with_reducible refine cix_b72 (by assumption) ?_ ?_ ?_) <;> decide) | ((with_reducible refine cix_b74 (by assumption) ?_ ?_ ?_) <;> decide) | ((with_reducible refine cix_b76 (by assumption) ?_ ?_ ?_) <;> decide) | ((with_reducible show CI (zrZ _ _)); refine ci_zr ?_ (by decide +kernel)) | ((with_reducible show CI (upZ _ _ _ _)); refine ci_up ?_ (fun lo hi hb => by first | (cases hb; done) | (cases hb; exact ⟨by decide, by decide⟩))) | fail)))
      | ((with_reducible show CIx _ _); first | exact cix_of (by assumption) | assumption | exact cix_zr (by assumption) (by decide +kernel))
      | exact fun k => if_pos rfl
      | (show (0 : Int) ≤ 1872; decide)
      | (show (1872 : Int) ≤ 10000; decide)
      | (show (0 : Int) ≤ 468; decide)
      | (show (468 : Int) ≤ 10000; decide)
      | (refine Exists.intro _ (And.intro rfl (And.intro (Prod.ext rfl (Prod.ext rfl ?_)) ?_)); (first | (show _ = RT _; (repeat (first | ((with_reducible show upR _ _ _ _ = _); refine up_RT ?_ (by decide +kernel)) | ((with_reducible show zrR _ _ = _); refine zr_RT ?_ (by decide +kernel)) | exact congrArg RT (by decide) | fail))) | (show _ = R0; refine Eq.trans (b := RT 128) ?_ RT_all; (repeat (first | ((with_reducible show upR _ _ _ _ = _); refine up_RT ?_ (by decide +kernel)) | ((with_reducible show zrR _ _ = _); refine zr_RT ?_ (by decide +kernel)) | exact congrArg RT (by decide) | fail))) | rfl | fail); refine And.intro (by (repeat (first | with_reducible assumption | ((with_reducible refine cix_m ?_ ?_) <;> assumption) | ((with_reducible refine cix_b70 (by assumption) ?_ ?_ ?_) <;> decide) | ((with_reducible refine cix_b72 (by assumption) ?_ ?_ ?_) <;> decide) | ((with_reducible refine cix_b74 (by assumption) ?_ ?_ ?_) <;> decide) | ((with_reducible refine cix_b76 (by assumption) ?_ ?_ ?_) <;> decide) | ((with_reducible show CI (zrZ _ _)); refine ci_zr ?_ (by decide +kernel)) | ((with_reducible show CI (upZ _ _ _ _)); refine ci_up ?_ (fun lo hi hb => by first | (cases hb; done) | (cases hb; exact ⟨by decide, by decide⟩))) | fail))) (And.intro (fun o ho => by (repeat (first | ((with_reducible show upZ _ _ _ _ _ = _); refine (upo (by omega)).trans ?_) | ((with_reducible show zrZ _ _ _ = _); refine (zro (by omega)).trans ?_) | fail)); (first | exact hFr o (by omega) | rfl)) (by exact ⟨rfl, rfl, rfl, rfl⟩)))
      | rfl
      | omega
      | skip
  · obtain rfl : n = 76 := hn
    obtain rfl : R = RT 74 := hR
    have hFr : ∀ o, o < 77 → Z o = Z o := fun _ _ => rfl
    have hI : CIx 76 Z := hI
    refine wp_run hG [] 400 _ _ _ _ ?_
    repeat' (first
      | with_reducible rfl
      | (refine And.intro ?_ ?_ <;> (try dsimp only))
      | (intro (r : Option PV) σ' hq
         first
         | (obtain ⟨rfl, rfl⟩ := hq)
         | (obtain ⟨Z', rfl, rfl, hI2, hk2, hP⟩ := hq; (try replace hP : _ ∧ _ := hP); (try dsimp only at hk2); (try dsimp only at hP); have hF := kp_loG (b := 76) hk2 (by rfl) (by decide); (try dsimp only at hF); (try have hFr : ∀ o, o < 76 → Z' o = Z o := fun o ho => (hF o (by omega)).trans (by (repeat (first | ((with_reducible show upZ _ _ _ _ _ = _); refine (upo (by omega)).trans ?_) | ((with_reducible show zrZ _ _ _ = _); refine (zro (by omega)).trans ?_) | fail)); (first | exact hFr o (by omega) | rfl))))
         | (obtain ⟨Z', rfl, rfl, hI2, hF, hV⟩ := hq; (try dsimp only at hF hV); (try have hFr : ∀ o, o < 76 → Z' o = Z o := fun o ho => (hF o (by omega)).trans (by (repeat (first | ((with_reducible show upZ _ _ _ _ _ = _); refine (upo (by omega)).trans ?_) | ((with_reducible show zrZ _ _ _ = _); refine (zro (by omega)).trans ?_) | fail)); (first | exact hFr o (by omega) | rfl))))
         | (obtain ⟨Z', rfl, rfl, hI2, hk2⟩ := hq; have hF := kp_loG (b := 76) hk2 (by rfl) (by decide); (try dsimp only at hF); (try have hFr : ∀ o, o < 76 → Z' o = Z o := fun o ho => (hF o (by omega)).trans (by (repeat (first | ((with_reducible show upZ _ _ _ _ _ = _); refine (upo (by omega)).trans ?_) | ((with_reducible show zrZ _ _ _ = _); refine (zro (by omega)).trans ?_) | fail)); (first | exact hFr o (by omega) | rfl))))
         | (obtain ⟨Z', rfl, rfl, hI2⟩ := hq))
      | (intro hc; (try simp only [cmp3_c] at hc); simp only [cmpI] at hc; first | (exfalso; revert hc; decide; done) | skip))
    all_goals first
      | with_reducible rfl
      | ((with_reducible show recvG _ _); rfl)
      | trivial
      | decide
      | ((with_reducible show preT _ _ _); show _ = RT _; (repeat (first | ((with_reducible show upR _ _ _ _ = _); refine up_RT ?_ (by decide +kernel)) | ((with_reducible show zrR _ _ = _); refine zr_RT ?_ (by decide +kernel)) | exact congrArg RT (by decide) | fail)))
      | ((with_reducible show _ = RT _); (repeat (first | ((with_reducible show upR _ _ _ _ = _); refine up_RT ?_ (by decide +kernel)) | ((with_reducible show zrR _ _ = _); refine zr_RT ?_ (by decide +kernel)) | exact congrArg RT (by decide) | fail)))
      | ((with_reducible show _ = R0); refine Eq.trans (b := RT 128) ?_ RT_all; (repeat (first | ((with_reducible show upR _ _ _ _ = _); refine up_RT ?_ (by decide +kernel)) | ((with_reducible show zrR _ _ = _); refine zr_RT ?_ (by decide +kernel)) | exact congrArg RT (by decide) | fail)))
      | ((with_reducible show CI _); (repeat (first | with_reducible assumption | ((with_reducible refine cix_m ?_ ?_) <;> assumption) | ((with_reducible refine cix_b70 (by assumption) ?_ ?_ ?_) <;> decide) | ((with_reducible refine cix_b72 (by assumption) ?_ ?_ ?_) <;> decide) | ((with_reducible refine cix_b74 (by assumption) ?_ ?_ ?_) <;> decide) | ((with_reducible refine cix_b76 (by assumption) ?_ ?_ ?_) <;> decide) | ((with_reducible show CI (zrZ _ _)); refine ci_zr ?_ (by decide +kernel)) | ((with_reducible show CI (upZ _ _ _ _)); refine ci_up ?_ (fun lo hi hb => by first | (cases hb; done) | (cases hb; exact ⟨by decide, by decide⟩))) | fail)))
      | ((with_reducible show CIx _ _); first | exact cix_of (by assumption) | assumption | exact cix_zr (by assumption) (by decide +kernel))
      | exact fun k => if_pos rfl
      | (show (0 : Int) ≤ 1872; decide)
      | (show (1872 : Int) ≤ 10000; decide)
      | (show (0 : Int) ≤ 468; decide)
      | (show (468 : Int) ≤ 10000; decide)
      | (refine Exists.intro _ (And.intro rfl (And.intro (Prod.ext rfl (Prod.ext rfl ?_)) ?_)); (first | (show _ = RT _; (repeat (first | ((with_reducible show upR _ _ _ _ = _); refine up_RT ?_ (by decide +kernel)) | ((with_reducible show zrR _ _ = _); refine zr_RT ?_ (by decide +kernel)) | exact congrArg RT (by decide) | fail))) | (show _ = R0; refine Eq.trans (b := RT 128) ?_ RT_all; (repeat (first | ((with_reducible show upR _ _ _ _ = _); refine up_RT ?_ (by decide +kernel)) | ((with_reducible show zrR _ _ = _); refine zr_RT ?_ (by decide +kernel)) | exact congrArg RT (by decide) | fail))) | rfl | fail); refine And.intro (by (repeat (first | with_reducible assumption | ((with_reducible refine cix_m ?_ ?_) <;> assumption) | ((with_reducible refine cix_b70 (by assumption) ?_ ?_ ?_) <;> decide) | ((with_reducible refine cix_b72 (by assumption) ?_ ?_ ?_) <;> decide) | ((with_reducible refine cix_b74 (by assumption) ?_ ?_ ?_) <;> decide) | ((with_reducible refine cix_b76 (by assumption) ?_ ?_ ?_) <;> decide) | ((with_reducible show CI (zrZ _ _)); refine ci_zr ?_ (by decide +kernel)) | ((with_reducible show CI (upZ _ _ _ _)); refine ci_up ?_ (fun lo hi hb => by first | (cases hb; done) | (cases hb; exact ⟨by decide, by decide⟩))) | fail))) (And.intro (fun o ho => by (repeat (first | ((with_reducible show upZ _ _ _ _ _ = _); refine (upo (by omega)).trans ?_) | ((with_reducible show zrZ _ _ _ = _); refine (zro (by omega)).trans ?_) | fail)); (first | exact hFr o (by omega) | rfl)) (by exact ⟨rfl, rfl, rfl, rfl⟩)))
      | rfl
      | omega
      | skip
def s_X6_initG : Sp := (1, 6, 11, fun as σ => match as with
    | [.inr (.inr a0)] => ((a0 = 6)) ∧ σ.1 = a0 ∧ σ.2.2 = RT (bX6 a0) ∧ CI σ.2.1 ∧ (∀ k, σ.2.1 a0 k = 0)
    | _ => False, fun as σ r σ' => match as with
    | [.inr (.inr a0)] => ∃ Z' : ZT, r = none ∧ σ' = (a0 + 11, Z', RT (eX6 a0)) ∧ CI Z' ∧ (∀ o, o < a0 → Z' o = σ.2.1 o) ∧ (FV6 Z')
    | _ => False)
set_option maxRecDepth 100000 in
set_option maxHeartbeats 40000000 in
theorem c_X6_initG {l : Launch} {D : va_G} {cA : Nat → ClassId} : PM l D cA yX6_init cX6_init 1 none 2 41 s_X6_initG := by
  refine of_X6_init (c_X5_initG) ⟨rfl, rfl⟩ (fun as σ hwf hao hpre => ?_)
  obtain ⟨n, Z, R⟩ := σ
  rcases as with _ | ⟨x | x | a0, _ | ⟨v, t⟩⟩ <;> first | exact (hpre : False).elim | skip
  obtain ⟨h0, hn, hR, hI, hz⟩ := hpre
  refine ⟨Nat.le_of_ble_eq_true rfl, fun G hG => ?_⟩
  clear hao hwf
  rcases h0 with rfl
  · obtain rfl : n = 6 := hn
    obtain rfl : R = RT 4 := hR
    have hFr : ∀ o, o < 7 → Z o = Z o := fun _ _ => rfl
    have hz : ∀ k, Z 6 k = 0 := hz
    refine wp_run hG [] 400 _ _ _ _ ?_
    repeat' (first
      | with_reducible rfl
      | (refine And.intro ?_ ?_ <;> (try dsimp only))
      | (intro (r : Option PV) σ' hq
         first
         | (obtain ⟨rfl, rfl⟩ := hq)
         | (obtain ⟨Z', rfl, rfl, hI2, hk2, hP⟩ := hq; (try replace hP : _ ∧ _ := hP); (try dsimp only at hk2); (try dsimp only at hP); have hF := kp_loG (b := 7) hk2 (by rfl) (by decide); (try dsimp only at hF); (try have hFr : ∀ o, o < 7 → Z' o = Z o := fun o ho => (hF o (by omega)).trans (by (repeat (first | ((with_reducible show upZ _ _ _ _ _ = _); refine (upo (by omega)).trans ?_) | ((with_reducible show zrZ _ _ _ = _); refine (zro (by omega)).trans ?_) | fail)); (first | exact hFr o (by omega) | rfl))))
         | (obtain ⟨Z', rfl, rfl, hI2, hF, hV⟩ := hq; (try dsimp only at hF hV); (try have hFr : ∀ o, o < 7 → Z' o = Z o := fun o ho => (hF o (by omega)).trans (by (repeat (first | ((with_reducible show upZ _ _ _ _ _ = _); refine (upo (by omega)).trans ?_) | ((with_reducible show zrZ _ _ _ = _); refine (zro (by omega)).trans ?_) | fail)); (first | exact hFr o (by omega) | rfl))))
         | (obtain ⟨Z', rfl, rfl, hI2, hk2⟩ := hq; have hF := kp_loG (b := 7) hk2 (by rfl) (by decide); (try dsimp only at hF); (try have hFr : ∀ o, o < 7 → Z' o = Z o := fun o ho => (hF o (by omega)).trans (by (repeat (first | ((with_reducible show upZ _ _ _ _ _ = _); refine (upo (by omega)).trans ?_) | ((with_reducible show zrZ _ _ _ = _); refine (zro (by omega)).trans ?_) | fail)); (first | exact hFr o (by omega) | rfl))))
         | (obtain ⟨Z', rfl, rfl, hI2⟩ := hq))
      | (intro hc; (try simp only [cmp3_c] at hc); simp only [cmpI] at hc; first | (exfalso; revert hc; decide; done) | skip))
    all_goals first
      | with_reducible rfl
      | ((with_reducible show recvG _ _); rfl)
      | trivial
      | decide
      | ((with_reducible show preT _ _ _); show _ = RT _; (repeat (first | ((with_reducible show upR _ _ _ _ = _); refine up_RT ?_ (by decide +kernel)) | ((with_reducible show zrR _ _ = _); refine zr_RT ?_ (by decide +kernel)) | exact congrArg RT (by decide) | fail)))
      | ((with_reducible show _ = RT _); (repeat (first | ((with_reducible show upR _ _ _ _ = _); refine up_RT ?_ (by decide +kernel)) | ((with_reducible show zrR _ _ = _); refine zr_RT ?_ (by decide +kernel)) | exact congrArg RT (by decide) | fail)))
      | ((with_reducible show _ = R0); refine Eq.trans (b := RT 128) ?_ RT_all; (repeat (first | ((with_reducible show upR _ _ _ _ = _); refine up_RT ?_ (by decide +kernel)) | ((with_reducible show zrR _ _ = _); refine zr_RT ?_ (by decide +kernel)) | exact congrArg RT (by decide) | fail)))
      | ((with_reducible show CI _); (repeat (first | with_reducible assumption | ((with_reducible refine cix_m ?_ ?_) <;> assumption) | ((with_reducible refine cix_b70 (by assumption) ?_ ?_ ?_) <;> decide) | ((with_reducible refine cix_b72 (by assumption) ?_ ?_ ?_) <;> decide) | ((with_reducible refine cix_b74 (by assumption) ?_ ?_ ?_) <;> decide) | ((with_reducible refine cix_b76 (by assumption) ?_ ?_ ?_) <;> decide) | ((with_reducible show CI (zrZ _ _)); refine ci_zr ?_ (by decide +kernel)) | ((with_reducible show CI (upZ _ _ _ _)); refine ci_up ?_ (fun lo hi hb => by first | (cases hb; done) | (cases hb; exact ⟨by decide, by decide⟩))) | fail)))
      | ((with_reducible show CIx _ _); first | exact cix_of (by assumption) | assumption | exact cix_zr (by assumption) (by decide +kernel))
      | exact fun k => if_pos rfl
      | (show (0 : Int) ≤ 1872; decide)
      | (show (1872 : Int) ≤ 10000; decide)
      | (show (0 : Int) ≤ 468; decide)
      | (show (468 : Int) ≤ 10000; decide)
      | (refine Exists.intro _ (And.intro rfl (And.intro (Prod.ext rfl (Prod.ext rfl ?_)) ?_)); (first | (show _ = RT _; (repeat (first | ((with_reducible show upR _ _ _ _ = _); refine up_RT ?_ (by decide +kernel)) | ((with_reducible show zrR _ _ = _); refine zr_RT ?_ (by decide +kernel)) | exact congrArg RT (by decide) | fail))) | (show _ = R0; refine Eq.trans (b := RT 128) ?_ RT_all; (repeat (first | ((with_reducible show upR _ _ _ _ = _); refine up_RT ?_ (by decide +kernel)) | ((with_reducible show zrR _ _ = _); refine zr_RT ?_ (by decide +kernel)) | exact congrArg RT (by decide) | fail))) | rfl | fail); refine And.intro (by (repeat (first | with_reducible assumption | ((with_reducible refine cix_m ?_ ?_) <;> assumption) | ((with_reducible refine cix_b70 (by assumption) ?_ ?_ ?_) <;> decide) | ((with_reducible refine cix_b72 (by assumption) ?_ ?_ ?_) <;> decide) | ((with_reducible refine cix_b74 (by assumption) ?_ ?_ ?_) <;> decide) | ((with_reducible refine cix_b76 (by assumption) ?_ ?_ ?_) <;> decide) | ((with_reducible show CI (zrZ _ _)); refine ci_zr ?_ (by decide +kernel)) | ((with_reducible show CI (upZ _ _ _ _)); refine ci_up ?_ (fun lo hi hb => by first | (cases hb; done) | (cases hb; exact ⟨by decide, by decide⟩))) | fail))) (And.intro (fun o ho => by (repeat (first | ((with_reducible show upZ _ _ _ _ _ = _); refine (upo (by omega)).trans ?_) | ((with_reducible show zrZ _ _ _ = _); refine (zro (by omega)).trans ?_) | fail)); (first | exact hFr o (by omega) | rfl)) (by exact (congrFun (hFr 6 (by decide)) 1).trans (hz 1))))
      | rfl
      | omega
      | skip
def s_X7_initG : Sp := (1, 7, 16, fun as σ => match as with
    | [.inr (.inr a0)] => ((a0 = 18) ∨ (a0 = 36) ∨ (a0 = 53)) ∧ σ.1 = a0 ∧ σ.2.2 = RT (bX7 a0) ∧ CI σ.2.1 ∧ (∀ k, σ.2.1 a0 k = 0)
    | _ => False, fun as σ r σ' => match as with
    | [.inr (.inr a0)] => ∃ Z' : ZT, r = none ∧ σ' = (a0 + 16, Z', RT (eX7 a0)) ∧ CI Z' ∧ (∀ o, o < a0 → Z' o = σ.2.1 o) ∧ (a0 = 18 → FV18 Z')
    | _ => False)
set_option maxRecDepth 100000 in
set_option maxHeartbeats 40000000 in
theorem c_X7_initG {l : Launch} {D : va_G} {cA : Nat → ClassId} : PM l D cA yX7_init cX7_init 1 none 2 41 s_X7_initG := by
  refine of_X7_init (c_X5_initG) ⟨rfl, rfl⟩ (c_X7_clearFirstsTG) ⟨rfl, rfl⟩ (fun as σ hwf hao hpre => ?_)
  obtain ⟨n, Z, R⟩ := σ
  rcases as with _ | ⟨x | x | a0, _ | ⟨v, t⟩⟩ <;> first | exact (hpre : False).elim | skip
  obtain ⟨h0, hn, hR, hI, hz⟩ := hpre
  refine ⟨Nat.le_of_ble_eq_true rfl, fun G hG => ?_⟩
  clear hao hwf
  rcases h0 with rfl | rfl | rfl
  · obtain rfl : n = 18 := hn
    obtain rfl : R = RT 16 := hR
    have hFr : ∀ o, o < 19 → Z o = Z o := fun _ _ => rfl
    have hz : ∀ k, Z 18 k = 0 := hz
    refine wp_run hG [] 400 _ _ _ _ ?_
    repeat' (first
      | with_reducible rfl
      | (refine And.intro ?_ ?_ <;> (try dsimp only))
      | (intro (r : Option PV) σ' hq
         first
         | (obtain ⟨rfl, rfl⟩ := hq)
         | (obtain ⟨Z', rfl, rfl, hI2, hk2, hP⟩ := hq; (try replace hP : _ ∧ _ := hP); (try dsimp only at hk2); (try dsimp only at hP); have hF := kp_loG (b := 19) hk2 (by rfl) (by decide); (try dsimp only at hF); (try have hFr : ∀ o, o < 19 → Z' o = Z o := fun o ho => (hF o (by omega)).trans (by (repeat (first | ((with_reducible show upZ _ _ _ _ _ = _); refine (upo (by omega)).trans ?_) | ((with_reducible show zrZ _ _ _ = _); refine (zro (by omega)).trans ?_) | fail)); (first | exact hFr o (by omega) | rfl))); (first | have y19 : FV19 Z' := hV rfl | (have hk5 : kp [29] _ Z' := hk2; have y19 : FV19 Z' := FV19_o (fun o h1 h2 => (funext fun k => hk5 o k (by omega) (by intro z; have := List.mem_singleton.mp z; omega) (by intro z; have := List.mem_singleton.mp z; omega)).trans (by (repeat (first | ((with_reducible show upZ _ _ _ _ _ = _); refine (upo (by omega)).trans ?_) | ((with_reducible show zrZ _ _ _ = _); refine (zro (by omega)).trans ?_) | fail)); rfl)) y19) | have y19 : FV19 Z' := FV19_o (fun o h1 h2 => (hF o (by omega)).trans (by (repeat (first | ((with_reducible show upZ _ _ _ _ _ = _); refine (upo (by omega)).trans ?_) | ((with_reducible show zrZ _ _ _ = _); refine (zro (by omega)).trans ?_) | fail)); rfl)) y19 | skip))
         | (obtain ⟨Z', rfl, rfl, hI2, hF, hV⟩ := hq; (try dsimp only at hF hV); (try have hFr : ∀ o, o < 19 → Z' o = Z o := fun o ho => (hF o (by omega)).trans (by (repeat (first | ((with_reducible show upZ _ _ _ _ _ = _); refine (upo (by omega)).trans ?_) | ((with_reducible show zrZ _ _ _ = _); refine (zro (by omega)).trans ?_) | fail)); (first | exact hFr o (by omega) | rfl))); (first | have y19 : FV19 Z' := hV rfl | (have hk5 : kp [29] _ Z' := hk2; have y19 : FV19 Z' := FV19_o (fun o h1 h2 => (funext fun k => hk5 o k (by omega) (by intro z; have := List.mem_singleton.mp z; omega) (by intro z; have := List.mem_singleton.mp z; omega)).trans (by (repeat (first | ((with_reducible show upZ _ _ _ _ _ = _); refine (upo (by omega)).trans ?_) | ((with_reducible show zrZ _ _ _ = _); refine (zro (by omega)).trans ?_) | fail)); rfl)) y19) | have y19 : FV19 Z' := FV19_o (fun o h1 h2 => (hF o (by omega)).trans (by (repeat (first | ((with_reducible show upZ _ _ _ _ _ = _); refine (upo (by omega)).trans ?_) | ((with_reducible show zrZ _ _ _ = _); refine (zro (by omega)).trans ?_) | fail)); rfl)) y19 | skip))
         | (obtain ⟨Z', rfl, rfl, hI2, hk2⟩ := hq; have hF := kp_loG (b := 19) hk2 (by rfl) (by decide); (try dsimp only at hF); (try have hFr : ∀ o, o < 19 → Z' o = Z o := fun o ho => (hF o (by omega)).trans (by (repeat (first | ((with_reducible show upZ _ _ _ _ _ = _); refine (upo (by omega)).trans ?_) | ((with_reducible show zrZ _ _ _ = _); refine (zro (by omega)).trans ?_) | fail)); (first | exact hFr o (by omega) | rfl))); (first | have y19 : FV19 Z' := hV rfl | (have hk5 : kp [29] _ Z' := hk2; have y19 : FV19 Z' := FV19_o (fun o h1 h2 => (funext fun k => hk5 o k (by omega) (by intro z; have := List.mem_singleton.mp z; omega) (by intro z; have := List.mem_singleton.mp z; omega)).trans (by (repeat (first | ((with_reducible show upZ _ _ _ _ _ = _); refine (upo (by omega)).trans ?_) | ((with_reducible show zrZ _ _ _ = _); refine (zro (by omega)).trans ?_) | fail)); rfl)) y19) | have y19 : FV19 Z' := FV19_o (fun o h1 h2 => (hF o (by omega)).trans (by (repeat (first | ((with_reducible show upZ _ _ _ _ _ = _); refine (upo (by omega)).trans ?_) | ((with_reducible show zrZ _ _ _ = _); refine (zro (by omega)).trans ?_) | fail)); rfl)) y19 | skip))
         | (obtain ⟨Z', rfl, rfl, hI2⟩ := hq))
      | (intro hc; (try simp only [cmp3_c] at hc); simp only [cmpI] at hc; first | (exfalso; revert hc; decide; done) | skip))
    all_goals first
      | with_reducible rfl
      | ((with_reducible show recvG _ _); rfl)
      | trivial
      | decide
      | ((with_reducible show preT _ _ _); show _ = RT _; (repeat (first | ((with_reducible show upR _ _ _ _ = _); refine up_RT ?_ (by decide +kernel)) | ((with_reducible show zrR _ _ = _); refine zr_RT ?_ (by decide +kernel)) | exact congrArg RT (by decide) | fail)))
      | ((with_reducible show _ = RT _); (repeat (first | ((with_reducible show upR _ _ _ _ = _); refine up_RT ?_ (by decide +kernel)) | ((with_reducible show zrR _ _ = _); refine zr_RT ?_ (by decide +kernel)) | exact congrArg RT (by decide) | fail)))
      | ((with_reducible show _ = R0); refine Eq.trans (b := RT 128) ?_ RT_all; (repeat (first | ((with_reducible show upR _ _ _ _ = _); refine up_RT ?_ (by decide +kernel)) | ((with_reducible show zrR _ _ = _); refine zr_RT ?_ (by decide +kernel)) | exact congrArg RT (by decide) | fail)))
      | ((with_reducible show CI _); (repeat (first | with_reducible assumption | ((with_reducible refine cix_m ?_ ?_) <;> assumption) | ((with_reducible refine cix_b70 (by assumption) ?_ ?_ ?_) <;> decide) | ((with_reducible refine cix_b72 (by assumption) ?_ ?_ ?_) <;> decide) | ((with_reducible refine cix_b74 (by assumption) ?_ ?_ ?_) <;> decide) | ((with_reducible refine cix_b76 (by assumption) ?_ ?_ ?_) <;> decide) | ((with_reducible show CI (zrZ _ _)); refine ci_zr ?_ (by decide +kernel)) | ((with_reducible show CI (upZ _ _ _ _)); refine ci_up ?_ (fun lo hi hb => by first | (cases hb; done) | (cases hb; exact ⟨by decide, by decide⟩))) | fail)))
      | ((with_reducible show CIx _ _); first | exact cix_of (by assumption) | assumption | exact cix_zr (by assumption) (by decide +kernel))
      | exact fun k => if_pos rfl
      | (show (0 : Int) ≤ 1872; decide)
      | (show (1872 : Int) ≤ 10000; decide)
      | (show (0 : Int) ≤ 468; decide)
      | (show (468 : Int) ≤ 10000; decide)
      | (refine Exists.intro _ (And.intro rfl (And.intro (Prod.ext rfl (Prod.ext rfl ?_)) ?_)); (first | (show _ = RT _; (repeat (first | ((with_reducible show upR _ _ _ _ = _); refine up_RT ?_ (by decide +kernel)) | ((with_reducible show zrR _ _ = _); refine zr_RT ?_ (by decide +kernel)) | exact congrArg RT (by decide) | fail))) | (show _ = R0; refine Eq.trans (b := RT 128) ?_ RT_all; (repeat (first | ((with_reducible show upR _ _ _ _ = _); refine up_RT ?_ (by decide +kernel)) | ((with_reducible show zrR _ _ = _); refine zr_RT ?_ (by decide +kernel)) | exact congrArg RT (by decide) | fail))) | rfl | fail); refine And.intro (by (repeat (first | with_reducible assumption | ((with_reducible refine cix_m ?_ ?_) <;> assumption) | ((with_reducible refine cix_b70 (by assumption) ?_ ?_ ?_) <;> decide) | ((with_reducible refine cix_b72 (by assumption) ?_ ?_ ?_) <;> decide) | ((with_reducible refine cix_b74 (by assumption) ?_ ?_ ?_) <;> decide) | ((with_reducible refine cix_b76 (by assumption) ?_ ?_ ?_) <;> decide) | ((with_reducible show CI (zrZ _ _)); refine ci_zr ?_ (by decide +kernel)) | ((with_reducible show CI (upZ _ _ _ _)); refine ci_up ?_ (fun lo hi hb => by first | (cases hb; done) | (cases hb; exact ⟨by decide, by decide⟩))) | fail))) (And.intro (fun o ho => by (repeat (first | ((with_reducible show upZ _ _ _ _ _ = _); refine (upo (by omega)).trans ?_) | ((with_reducible show zrZ _ _ _ = _); refine (zro (by omega)).trans ?_) | fail)); (first | exact hFr o (by omega) | rfl)) (by exact fun _ => ⟨(congrFun (hFr 18 (by omega)) 3).trans (hz 3), (congrFun (hFr 18 (by omega)) 4).trans (hz 4), hP.1, fun k => (congrFun (kp_av (o := 30) hk2 (by rfl) (by decide)) k).trans rfl, fun k => (congrFun (kp_av (o := 31) hk2 (by rfl) (by decide)) k).trans rfl, fun k => (congrFun (kp_av (o := 32) hk2 (by rfl) (by decide)) k).trans rfl, fun k => (congrFun (kp_av (o := 33) hk2 (by rfl) (by decide)) k).trans rfl, fun k => (congrFun (kp_av (o := 34) hk2 (by rfl) (by decide)) k).trans rfl, y19.1, y19.2.1, y19.2.2.1, y19.2.2.2⟩)))
      | rfl
      | omega
      | skip
  · obtain rfl : n = 36 := hn
    obtain rfl : R = RT 33 := hR
    have hFr : ∀ o, o < 37 → Z o = Z o := fun _ _ => rfl
    have hz : ∀ k, Z 36 k = 0 := hz
    refine wp_run hG [] 400 _ _ _ _ ?_
    repeat' (first
      | with_reducible rfl
      | (refine And.intro ?_ ?_ <;> (try dsimp only))
      | (intro (r : Option PV) σ' hq
         first
         | (obtain ⟨rfl, rfl⟩ := hq)
         | (obtain ⟨Z', rfl, rfl, hI2, hk2, hP⟩ := hq; (try replace hP : _ ∧ _ := hP); (try dsimp only at hk2); (try dsimp only at hP); have hF := kp_loG (b := 37) hk2 (by rfl) (by decide); (try dsimp only at hF); (try have hFr : ∀ o, o < 37 → Z' o = Z o := fun o ho => (hF o (by omega)).trans (by (repeat (first | ((with_reducible show upZ _ _ _ _ _ = _); refine (upo (by omega)).trans ?_) | ((with_reducible show zrZ _ _ _ = _); refine (zro (by omega)).trans ?_) | fail)); (first | exact hFr o (by omega) | rfl))); (first | have y19 : FV19 Z' := hV rfl | (have hk5 : kp [29] _ Z' := hk2; have y19 : FV19 Z' := FV19_o (fun o h1 h2 => (funext fun k => hk5 o k (by omega) (by intro z; have := List.mem_singleton.mp z; omega) (by intro z; have := List.mem_singleton.mp z; omega)).trans (by (repeat (first | ((with_reducible show upZ _ _ _ _ _ = _); refine (upo (by omega)).trans ?_) | ((with_reducible show zrZ _ _ _ = _); refine (zro (by omega)).trans ?_) | fail)); rfl)) y19) | have y19 : FV19 Z' := FV19_o (fun o h1 h2 => (hF o (by omega)).trans (by (repeat (first | ((with_reducible show upZ _ _ _ _ _ = _); refine (upo (by omega)).trans ?_) | ((with_reducible show zrZ _ _ _ = _); refine (zro (by omega)).trans ?_) | fail)); rfl)) y19 | skip))
         | (obtain ⟨Z', rfl, rfl, hI2, hF, hV⟩ := hq; (try dsimp only at hF hV); (try have hFr : ∀ o, o < 37 → Z' o = Z o := fun o ho => (hF o (by omega)).trans (by (repeat (first | ((with_reducible show upZ _ _ _ _ _ = _); refine (upo (by omega)).trans ?_) | ((with_reducible show zrZ _ _ _ = _); refine (zro (by omega)).trans ?_) | fail)); (first | exact hFr o (by omega) | rfl))); (first | have y19 : FV19 Z' := hV rfl | (have hk5 : kp [29] _ Z' := hk2; have y19 : FV19 Z' := FV19_o (fun o h1 h2 => (funext fun k => hk5 o k (by omega) (by intro z; have := List.mem_singleton.mp z; omega) (by intro z; have := List.mem_singleton.mp z; omega)).trans (by (repeat (first | ((with_reducible show upZ _ _ _ _ _ = _); refine (upo (by omega)).trans ?_) | ((with_reducible show zrZ _ _ _ = _); refine (zro (by omega)).trans ?_) | fail)); rfl)) y19) | have y19 : FV19 Z' := FV19_o (fun o h1 h2 => (hF o (by omega)).trans (by (repeat (first | ((with_reducible show upZ _ _ _ _ _ = _); refine (upo (by omega)).trans ?_) | ((with_reducible show zrZ _ _ _ = _); refine (zro (by omega)).trans ?_) | fail)); rfl)) y19 | skip))
         | (obtain ⟨Z', rfl, rfl, hI2, hk2⟩ := hq; have hF := kp_loG (b := 37) hk2 (by rfl) (by decide); (try dsimp only at hF); (try have hFr : ∀ o, o < 37 → Z' o = Z o := fun o ho => (hF o (by omega)).trans (by (repeat (first | ((with_reducible show upZ _ _ _ _ _ = _); refine (upo (by omega)).trans ?_) | ((with_reducible show zrZ _ _ _ = _); refine (zro (by omega)).trans ?_) | fail)); (first | exact hFr o (by omega) | rfl))); (first | have y19 : FV19 Z' := hV rfl | (have hk5 : kp [29] _ Z' := hk2; have y19 : FV19 Z' := FV19_o (fun o h1 h2 => (funext fun k => hk5 o k (by omega) (by intro z; have := List.mem_singleton.mp z; omega) (by intro z; have := List.mem_singleton.mp z; omega)).trans (by (repeat (first | ((with_reducible show upZ _ _ _ _ _ = _); refine (upo (by omega)).trans ?_) | ((with_reducible show zrZ _ _ _ = _); refine (zro (by omega)).trans ?_) | fail)); rfl)) y19) | have y19 : FV19 Z' := FV19_o (fun o h1 h2 => (hF o (by omega)).trans (by (repeat (first | ((with_reducible show upZ _ _ _ _ _ = _); refine (upo (by omega)).trans ?_) | ((with_reducible show zrZ _ _ _ = _); refine (zro (by omega)).trans ?_) | fail)); rfl)) y19 | skip))
         | (obtain ⟨Z', rfl, rfl, hI2⟩ := hq))
      | (intro hc; (try simp only [cmp3_c] at hc); simp only [cmpI] at hc; first | (exfalso; revert hc; decide; done) | skip))
    all_goals first
      | with_reducible rfl
      | ((with_reducible show recvG _ _); rfl)
      | trivial
      | decide
      | ((with_reducible show preT _ _ _); show _ = RT _; (repeat (first | ((with_reducible show upR _ _ _ _ = _); refine up_RT ?_ (by decide +kernel)) | ((with_reducible show zrR _ _ = _); refine zr_RT ?_ (by decide +kernel)) | exact congrArg RT (by decide) | fail)))
      | ((with_reducible show _ = RT _); (repeat (first | ((with_reducible show upR _ _ _ _ = _); refine up_RT ?_ (by decide +kernel)) | ((with_reducible show zrR _ _ = _); refine zr_RT ?_ (by decide +kernel)) | exact congrArg RT (by decide) | fail)))
      | ((with_reducible show _ = R0); refine Eq.trans (b := RT 128) ?_ RT_all; (repeat (first | ((with_reducible show upR _ _ _ _ = _); refine up_RT ?_ (by decide +kernel)) | ((with_reducible show zrR _ _ = _); refine zr_RT ?_ (by decide +kernel)) | exact congrArg RT (by decide) | fail)))
      | ((with_reducible show CI _); (repeat (first | with_reducible assumption | ((with_reducible refine cix_m ?_ ?_) <;> assumption) | ((with_reducible refine cix_b70 (by assumption) ?_ ?_ ?_) <;> decide) | ((with_reducible refine cix_b72 (by assumption) ?_ ?_ ?_) <;> decide) | ((with_reducible refine cix_b74 (by assumption) ?_ ?_ ?_) <;> decide) | ((with_reducible refine cix_b76 (by assumption) ?_ ?_ ?_) <;> decide) | ((with_reducible show CI (zrZ _ _)); refine ci_zr ?_ (by decide +kernel)) | ((with_reducible show CI (upZ _ _ _ _)); refine ci_up ?_ (fun lo hi hb => by first | (cases hb; done) | (cases hb; exact ⟨by decide, by decide⟩))) | fail)))
      | ((with_reducible show CIx _ _); first | exact cix_of (by assumption) | assumption | exact cix_zr (by assumption) (by decide +kernel))
      | exact fun k => if_pos rfl
      | (show (0 : Int) ≤ 1872; decide)
      | (show (1872 : Int) ≤ 10000; decide)
      | (show (0 : Int) ≤ 468; decide)
      | (show (468 : Int) ≤ 10000; decide)
      | (refine Exists.intro _ (And.intro rfl (And.intro (Prod.ext rfl (Prod.ext rfl ?_)) ?_)); (first | (show _ = RT _; (repeat (first | ((with_reducible show upR _ _ _ _ = _); refine up_RT ?_ (by decide +kernel)) | ((with_reducible show zrR _ _ = _); refine zr_RT ?_ (by decide +kernel)) | exact congrArg RT (by decide) | fail))) | (show _ = R0; refine Eq.trans (b := RT 128) ?_ RT_all; (repeat (first | ((with_reducible show upR _ _ _ _ = _); refine up_RT ?_ (by decide +kernel)) | ((with_reducible show zrR _ _ = _); refine zr_RT ?_ (by decide +kernel)) | exact congrArg RT (by decide) | fail))) | rfl | fail); refine And.intro (by (repeat (first | with_reducible assumption | ((with_reducible refine cix_m ?_ ?_) <;> assumption) | ((with_reducible refine cix_b70 (by assumption) ?_ ?_ ?_) <;> decide) | ((with_reducible refine cix_b72 (by assumption) ?_ ?_ ?_) <;> decide) | ((with_reducible refine cix_b74 (by assumption) ?_ ?_ ?_) <;> decide) | ((with_reducible refine cix_b76 (by assumption) ?_ ?_ ?_) <;> decide) | ((with_reducible show CI (zrZ _ _)); refine ci_zr ?_ (by decide +kernel)) | ((with_reducible show CI (upZ _ _ _ _)); refine ci_up ?_ (fun lo hi hb => by first | (cases hb; done) | (cases hb; exact ⟨by decide, by decide⟩))) | fail))) (And.intro (fun o ho => by (repeat (first | ((with_reducible show upZ _ _ _ _ _ = _); refine (upo (by omega)).trans ?_) | ((with_reducible show zrZ _ _ _ = _); refine (zro (by omega)).trans ?_) | fail)); (first | exact hFr o (by omega) | rfl)) (by exact fun h => absurd h (by decide))))
      | rfl
      | omega
      | skip
  · obtain rfl : n = 53 := hn
    obtain rfl : R = RT 50 := hR
    have hFr : ∀ o, o < 54 → Z o = Z o := fun _ _ => rfl
    have hz : ∀ k, Z 53 k = 0 := hz
    refine wp_run hG [] 400 _ _ _ _ ?_
    repeat' (first
      | with_reducible rfl
      | (refine And.intro ?_ ?_ <;> (try dsimp only))
      | (intro (r : Option PV) σ' hq
         first
         | (obtain ⟨rfl, rfl⟩ := hq)
         | (obtain ⟨Z', rfl, rfl, hI2, hk2, hP⟩ := hq; (try replace hP : _ ∧ _ := hP); (try dsimp only at hk2); (try dsimp only at hP); have hF := kp_loG (b := 54) hk2 (by rfl) (by decide); (try dsimp only at hF); (try have hFr : ∀ o, o < 54 → Z' o = Z o := fun o ho => (hF o (by omega)).trans (by (repeat (first | ((with_reducible show upZ _ _ _ _ _ = _); refine (upo (by omega)).trans ?_) | ((with_reducible show zrZ _ _ _ = _); refine (zro (by omega)).trans ?_) | fail)); (first | exact hFr o (by omega) | rfl))); (first | have y19 : FV19 Z' := hV rfl | (have hk5 : kp [29] _ Z' := hk2; have y19 : FV19 Z' := FV19_o (fun o h1 h2 => (funext fun k => hk5 o k (by omega) (by intro z; have := List.mem_singleton.mp z; omega) (by intro z; have := List.mem_singleton.mp z; omega)).trans (by (repeat (first | ((with_reducible show upZ _ _ _ _ _ = _); refine (upo (by omega)).trans ?_) | ((with_reducible show zrZ _ _ _ = _); refine (zro (by omega)).trans ?_) | fail)); rfl)) y19) | have y19 : FV19 Z' := FV19_o (fun o h1 h2 => (hF o (by omega)).trans (by (repeat (first | ((with_reducible show upZ _ _ _ _ _ = _); refine (upo (by omega)).trans ?_) | ((with_reducible show zrZ _ _ _ = _); refine (zro (by omega)).trans ?_) | fail)); rfl)) y19 | skip))
         | (obtain ⟨Z', rfl, rfl, hI2, hF, hV⟩ := hq; (try dsimp only at hF hV); (try have hFr : ∀ o, o < 54 → Z' o = Z o := fun o ho => (hF o (by omega)).trans (by (repeat (first | ((with_reducible show upZ _ _ _ _ _ = _); refine (upo (by omega)).trans ?_) | ((with_reducible show zrZ _ _ _ = _); refine (zro (by omega)).trans ?_) | fail)); (first | exact hFr o (by omega) | rfl))); (first | have y19 : FV19 Z' := hV rfl | (have hk5 : kp [29] _ Z' := hk2; have y19 : FV19 Z' := FV19_o (fun o h1 h2 => (funext fun k => hk5 o k (by omega) (by intro z; have := List.mem_singleton.mp z; omega) (by intro z; have := List.mem_singleton.mp z; omega)).trans (by (repeat (first | ((with_reducible show upZ _ _ _ _ _ = _); refine (upo (by omega)).trans ?_) | ((with_reducible show zrZ _ _ _ = _); refine (zro (by omega)).trans ?_) | fail)); rfl)) y19) | have y19 : FV19 Z' := FV19_o (fun o h1 h2 => (hF o (by omega)).trans (by (repeat (first | ((with_reducible show upZ _ _ _ _ _ = _); refine (upo (by omega)).trans ?_) | ((with_reducible show zrZ _ _ _ = _); refine (zro (by omega)).trans ?_) | fail)); rfl)) y19 | skip))
         | (obtain ⟨Z', rfl, rfl, hI2, hk2⟩ := hq; have hF := kp_loG (b := 54) hk2 (by rfl) (by decide); (try dsimp only at hF); (try have hFr : ∀ o, o < 54 → Z' o = Z o := fun o ho => (hF o (by omega)).trans (by (repeat (first | ((with_reducible show upZ _ _ _ _ _ = _); refine (upo (by omega)).trans ?_) | ((with_reducible show zrZ _ _ _ = _); refine (zro (by omega)).trans ?_) | fail)); (first | exact hFr o (by omega) | rfl))); (first | have y19 : FV19 Z' := hV rfl | (have hk5 : kp [29] _ Z' := hk2; have y19 : FV19 Z' := FV19_o (fun o h1 h2 => (funext fun k => hk5 o k (by omega) (by intro z; have := List.mem_singleton.mp z; omega) (by intro z; have := List.mem_singleton.mp z; omega)).trans (by (repeat (first | ((with_reducible show upZ _ _ _ _ _ = _); refine (upo (by omega)).trans ?_) | ((with_reducible show zrZ _ _ _ = _); refine (zro (by omega)).trans ?_) | fail)); rfl)) y19) | have y19 : FV19 Z' := FV19_o (fun o h1 h2 => (hF o (by omega)).trans (by (repeat (first | ((with_reducible show upZ _ _ _ _ _ = _); refine (upo (by omega)).trans ?_) | ((with_reducible show zrZ _ _ _ = _); refine (zro (by omega)).trans ?_) | fail)); rfl)) y19 | skip))
         | (obtain ⟨Z', rfl, rfl, hI2⟩ := hq))
      | (intro hc; (try simp only [cmp3_c] at hc); simp only [cmpI] at hc; first | (exfalso; revert hc; decide; done) | skip))
    all_goals first
      | with_reducible rfl
      | ((with_reducible show recvG _ _); rfl)
      | trivial
      | decide
      | ((with_reducible show preT _ _ _); show _ = RT _; (repeat (first | ((with_reducible show upR _ _ _ _ = _); refine up_RT ?_ (by decide +kernel)) | ((with_reducible show zrR _ _ = _); refine zr_RT ?_ (by decide +kernel)) | exact congrArg RT (by decide) | fail)))
      | ((with_reducible show _ = RT _); (repeat (first | ((with_reducible show upR _ _ _ _ = _); refine up_RT ?_ (by decide +kernel)) | ((with_reducible show zrR _ _ = _); refine zr_RT ?_ (by decide +kernel)) | exact congrArg RT (by decide) | fail)))
      | ((with_reducible show _ = R0); refine Eq.trans (b := RT 128) ?_ RT_all; (repeat (first | ((with_reducible show upR _ _ _ _ = _); refine up_RT ?_ (by decide +kernel)) | ((with_reducible show zrR _ _ = _); refine zr_RT ?_ (by decide +kernel)) | exact congrArg RT (by decide) | fail)))
      | ((with_reducible show CI _); (repeat (first | with_reducible assumption | ((with_reducible refine cix_m ?_ ?_) <;> assumption) | ((with_reducible refine cix_b70 (by assumption) ?_ ?_ ?_) <;> decide) | ((with_reducible refine cix_b72 (by assumption) ?_ ?_ ?_) <;> decide) | ((with_reducible refine cix_b74 (by assumption) ?_ ?_ ?_) <;> decide) | ((with_reducible refine cix_b76 (by assumption) ?_ ?_ ?_) <;> decide) | ((with_reducible show CI (zrZ _ _)); refine ci_zr ?_ (by decide +kernel)) | ((with_reducible show CI (upZ _ _ _ _)); refine ci_up ?_ (fun lo hi hb => by first | (cases hb; done) | (cases hb; exact ⟨by decide, by decide⟩))) | fail)))
      | ((with_reducible show CIx _ _); first | exact cix_of (by assumption) | assumption | exact cix_zr (by assumption) (by decide +kernel))
      | exact fun k => if_pos rfl
      | (show (0 : Int) ≤ 1872; decide)
      | (show (1872 : Int) ≤ 10000; decide)
      | (show (0 : Int) ≤ 468; decide)
      | (show (468 : Int) ≤ 10000; decide)
      | (refine Exists.intro _ (And.intro rfl (And.intro (Prod.ext rfl (Prod.ext rfl ?_)) ?_)); (first | (show _ = RT _; (repeat (first | ((with_reducible show upR _ _ _ _ = _); refine up_RT ?_ (by decide +kernel)) | ((with_reducible show zrR _ _ = _); refine zr_RT ?_ (by decide +kernel)) | exact congrArg RT (by decide) | fail))) | (show _ = R0; refine Eq.trans (b := RT 128) ?_ RT_all; (repeat (first | ((with_reducible show upR _ _ _ _ = _); refine up_RT ?_ (by decide +kernel)) | ((with_reducible show zrR _ _ = _); refine zr_RT ?_ (by decide +kernel)) | exact congrArg RT (by decide) | fail))) | rfl | fail); refine And.intro (by (repeat (first | with_reducible assumption | ((with_reducible refine cix_m ?_ ?_) <;> assumption) | ((with_reducible refine cix_b70 (by assumption) ?_ ?_ ?_) <;> decide) | ((with_reducible refine cix_b72 (by assumption) ?_ ?_ ?_) <;> decide) | ((with_reducible refine cix_b74 (by assumption) ?_ ?_ ?_) <;> decide) | ((with_reducible refine cix_b76 (by assumption) ?_ ?_ ?_) <;> decide) | ((with_reducible show CI (zrZ _ _)); refine ci_zr ?_ (by decide +kernel)) | ((with_reducible show CI (upZ _ _ _ _)); refine ci_up ?_ (fun lo hi hb => by first | (cases hb; done) | (cases hb; exact ⟨by decide, by decide⟩))) | fail))) (And.intro (fun o ho => by (repeat (first | ((with_reducible show upZ _ _ _ _ _ = _); refine (upo (by omega)).trans ?_) | ((with_reducible show zrZ _ _ _ = _); refine (zro (by omega)).trans ?_) | fail)); (first | exact hFr o (by omega) | rfl)) (by exact fun h => absurd h (by decide))))
      | rfl
      | omega
      | skip
def s_X8_initG : Sp := (1, 8, 6, fun as σ => match as with
    | [.inr (.inr a0)] => ((a0 = 93)) ∧ σ.1 = a0 ∧ σ.2.2 = RT (bX8 a0) ∧ CI σ.2.1 ∧ (∀ k, σ.2.1 a0 k = 0)
    | _ => False, fun as σ r σ' => match as with
    | [.inr (.inr a0)] => ∃ Z' : ZT, r = none ∧ σ' = (a0 + 6, Z', RT (eX8 a0)) ∧ CI Z' ∧ (∀ o, o < a0 → Z' o = σ.2.1 o) ∧ (FV93 Z')
    | _ => False)
set_option maxRecDepth 100000 in
set_option maxHeartbeats 40000000 in
theorem c_X8_initG {l : Launch} {D : va_G} {cA : Nat → ClassId} : PM l D cA yX8_init cX8_init 1 none 2 40 s_X8_initG := by
  refine of_X8_init (c_X9_initG) ⟨rfl, rfl⟩ (fun as σ hwf hao hpre => ?_)
  obtain ⟨n, Z, R⟩ := σ
  rcases as with _ | ⟨x | x | a0, _ | ⟨v, t⟩⟩ <;> first | exact (hpre : False).elim | skip
  obtain ⟨h0, hn, hR, hI, hz⟩ := hpre
  refine ⟨Nat.le_of_ble_eq_true rfl, fun G hG => ?_⟩
  clear hao hwf
  rcases h0 with rfl
  · obtain rfl : n = 93 := hn
    obtain rfl : R = RT 91 := hR
    have hFr : ∀ o, o < 94 → Z o = Z o := fun _ _ => rfl
    have hz : ∀ k, Z 93 k = 0 := hz
    refine wp_run hG [] 400 _ _ _ _ ?_
    repeat' (first
      | with_reducible rfl
      | (refine And.intro ?_ ?_ <;> (try dsimp only))
      | (intro (r : Option PV) σ' hq
         first
         | (obtain ⟨rfl, rfl⟩ := hq)
         | (obtain ⟨Z', rfl, rfl, hI2, hk2, hP⟩ := hq; (try replace hP : _ ∧ _ := hP); (try dsimp only at hk2); (try dsimp only at hP); have hF := kp_loG (b := 94) hk2 (by rfl) (by decide); (try dsimp only at hF); (try have hFr : ∀ o, o < 94 → Z' o = Z o := fun o ho => (hF o (by omega)).trans (by (repeat (first | ((with_reducible show upZ _ _ _ _ _ = _); refine (upo (by omega)).trans ?_) | ((with_reducible show zrZ _ _ _ = _); refine (zro (by omega)).trans ?_) | fail)); (first | exact hFr o (by omega) | rfl))))
         | (obtain ⟨Z', rfl, rfl, hI2, hF, hV⟩ := hq; (try dsimp only at hF hV); (try have hFr : ∀ o, o < 94 → Z' o = Z o := fun o ho => (hF o (by omega)).trans (by (repeat (first | ((with_reducible show upZ _ _ _ _ _ = _); refine (upo (by omega)).trans ?_) | ((with_reducible show zrZ _ _ _ = _); refine (zro (by omega)).trans ?_) | fail)); (first | exact hFr o (by omega) | rfl))))
         | (obtain ⟨Z', rfl, rfl, hI2, hk2⟩ := hq; have hF := kp_loG (b := 94) hk2 (by rfl) (by decide); (try dsimp only at hF); (try have hFr : ∀ o, o < 94 → Z' o = Z o := fun o ho => (hF o (by omega)).trans (by (repeat (first | ((with_reducible show upZ _ _ _ _ _ = _); refine (upo (by omega)).trans ?_) | ((with_reducible show zrZ _ _ _ = _); refine (zro (by omega)).trans ?_) | fail)); (first | exact hFr o (by omega) | rfl))))
         | (obtain ⟨Z', rfl, rfl, hI2⟩ := hq))
      | (intro hc; (try simp only [cmp3_c] at hc); simp only [cmpI] at hc; first | (exfalso; revert hc; decide; done) | skip))
    all_goals first
      | with_reducible rfl
      | ((with_reducible show recvG _ _); rfl)
      | trivial
      | decide
      | ((with_reducible show preT _ _ _); show _ = RT _; (repeat (first | ((with_reducible show upR _ _ _ _ = _); refine up_RT ?_ (by decide +kernel)) | ((with_reducible show zrR _ _ = _); refine zr_RT ?_ (by decide +kernel)) | exact congrArg RT (by decide) | fail)))
      | ((with_reducible show _ = RT _); (repeat (first | ((with_reducible show upR _ _ _ _ = _); refine up_RT ?_ (by decide +kernel)) | ((with_reducible show zrR _ _ = _); refine zr_RT ?_ (by decide +kernel)) | exact congrArg RT (by decide) | fail)))
      | ((with_reducible show _ = R0); refine Eq.trans (b := RT 128) ?_ RT_all; (repeat (first | ((with_reducible show upR _ _ _ _ = _); refine up_RT ?_ (by decide +kernel)) | ((with_reducible show zrR _ _ = _); refine zr_RT ?_ (by decide +kernel)) | exact congrArg RT (by decide) | fail)))
      | ((with_reducible show CI _); (repeat (first | with_reducible assumption | ((with_reducible refine cix_m ?_ ?_) <;> assumption) | ((with_reducible refine cix_b70 (by assumption) ?_ ?_ ?_) <;> decide) | ((with_reducible refine cix_b72 (by assumption) ?_ ?_ ?_) <;> decide) | ((with_reducible refine cix_b74 (by assumption) ?_ ?_ ?_) <;> decide) | ((with_reducible refine cix_b76 (by assumption) ?_ ?_ ?_) <;> decide) | ((with_reducible show CI (zrZ _ _)); refine ci_zr ?_ (by decide +kernel)) | ((with_reducible show CI (upZ _ _ _ _)); refine ci_up ?_ (fun lo hi hb => by first | (cases hb; done) | (cases hb; exact ⟨by decide, by decide⟩))) | fail)))
      | ((with_reducible show CIx _ _); first | exact cix_of (by assumption) | assumption | exact cix_zr (by assumption) (by decide +kernel))
      | exact fun k => if_pos rfl
      | (show (0 : Int) ≤ 1872; decide)
      | (show (1872 : Int) ≤ 10000; decide)
      | (show (0 : Int) ≤ 468; decide)
      | (show (468 : Int) ≤ 10000; decide)
      | (refine Exists.intro _ (And.intro rfl (And.intro (Prod.ext rfl (Prod.ext rfl ?_)) ?_)); (first | (show _ = RT _; (repeat (first | ((with_reducible show upR _ _ _ _ = _); refine up_RT ?_ (by decide +kernel)) | ((with_reducible show zrR _ _ = _); refine zr_RT ?_ (by decide +kernel)) | exact congrArg RT (by decide) | fail))) | (show _ = R0; refine Eq.trans (b := RT 128) ?_ RT_all; (repeat (first | ((with_reducible show upR _ _ _ _ = _); refine up_RT ?_ (by decide +kernel)) | ((with_reducible show zrR _ _ = _); refine zr_RT ?_ (by decide +kernel)) | exact congrArg RT (by decide) | fail))) | rfl | fail); refine And.intro (by (repeat (first | with_reducible assumption | ((with_reducible refine cix_m ?_ ?_) <;> assumption) | ((with_reducible refine cix_b70 (by assumption) ?_ ?_ ?_) <;> decide) | ((with_reducible refine cix_b72 (by assumption) ?_ ?_ ?_) <;> decide) | ((with_reducible refine cix_b74 (by assumption) ?_ ?_ ?_) <;> decide) | ((with_reducible refine cix_b76 (by assumption) ?_ ?_ ?_) <;> decide) | ((with_reducible show CI (zrZ _ _)); refine ci_zr ?_ (by decide +kernel)) | ((with_reducible show CI (upZ _ _ _ _)); refine ci_up ?_ (fun lo hi hb => by first | (cases hb; done) | (cases hb; exact ⟨by decide, by decide⟩))) | fail))) (And.intro (fun o ho => by (repeat (first | ((with_reducible show upZ _ _ _ _ _ = _); refine (upo (by omega)).trans ?_) | ((with_reducible show zrZ _ _ _ = _); refine (zro (by omega)).trans ?_) | fail)); (first | exact hFr o (by omega) | rfl)) (by exact (congrFun (hFr 93 (by decide)) 3).trans (hz 3))))
      | rfl
      | omega
      | skip
