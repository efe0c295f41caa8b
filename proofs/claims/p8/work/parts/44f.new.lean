/-! ===== constructors once more: what lies ahead is kept; first values ===== -/
theorem upo {Z : ZT} {o k p : Nat} {a : Int} (h : p ≠ o) : upZ Z o k a p = Z p := funext fun q => up_ne h
theorem zro {Z : ZT} {o p : Nat} (h : p ≠ o) : zrZ Z o p = Z p := funext fun q => if_neg h
theorem kp_lo {S : List Nat} {Z Z' : ZT} {b : Nat} (h : kp S Z Z') (hS : S.all (fun e => Nat.ble b e && Nat.ble b (e % 1000)) = true) (hb : b ≤ 999) : ∀ o, o < b → Z' o = Z o := fun o ho => funext fun k => by
  refine h o k (by omega) (fun z => ?_) (fun z => ?_)
  · have w := (Bool.and_eq_true _ _).mp (List.all_eq_true.mp hS _ z)
    have := Nat.le_of_ble_eq_true w.1
    omega
  · have w := (Bool.and_eq_true _ _).mp (List.all_eq_true.mp hS _ z)
    have := Nat.le_of_ble_eq_true w.2
    omega
def s_X4_initF : Sp := (1, 4, 1, fun as σ => match as with
    | [.inr (.inr a0)] => ((a0 = 78)) ∧ σ.1 = a0 ∧ σ.2.2 = RT (bX4 a0) ∧ CI σ.2.1
    | _ => False, fun as σ r σ' => match as with
    | [.inr (.inr a0)] => ∃ Z' : ZT, r = none ∧ σ' = (a0 + 1, Z', RT (eX4 a0)) ∧ CI Z' ∧ (∀ o, o < a0 → Z' o = σ.2.1 o) ∧ (True)
    | _ => False)
set_option maxRecDepth 100000 in
set_option maxHeartbeats 40000000 in
theorem c_X4_initF {l : Launch} {D : va_G} {cA : Nat → ClassId} : PM l D cA yX4_init cX4_init 1 none 1 20 s_X4_initF := by
  refine of_X4_init  (fun as σ hwf hao hpre => ?_)
  obtain ⟨n, Z, R⟩ := σ
  rcases as with _ | ⟨x | x | a0, _ | ⟨v, t⟩⟩ <;> first | exact (hpre : False).elim | skip
  obtain ⟨h0, hn, hR, hI⟩ := hpre
  refine ⟨Nat.le_of_ble_eq_true rfl, fun G hG => ?_⟩
  clear hao hwf
  rcases h0 with rfl
  · obtain rfl : n = 78 := hn
    obtain rfl : R = RT 76 := hR
    have hFr : ∀ o, o < 79 → Z o = Z o := fun _ _ => rfl
    refine wp_run hG [] 400 _ _ _ _ ?_
    repeat' (first
      | with_reducible rfl
      | (refine And.intro ?_ ?_ <;> (try dsimp only))
      | (intro (r : Option PV) σ' hq
         first
         | (obtain ⟨rfl, rfl⟩ := hq)
         | (obtain ⟨Z', rfl, rfl, hI2, hF, hV⟩ := hq; (try dsimp only at hF hV); (try have hFr : ∀ o, o < 78 → Z' o = Z o := fun o ho => (hF o (by omega)).trans (by (repeat (first | ((with_reducible show upZ _ _ _ _ _ = _); refine (upo (by omega)).trans ?_) | ((with_reducible show zrZ _ _ _ = _); refine (zro (by omega)).trans ?_) | fail)); (first | exact hFr o (by omega) | rfl))))
         | (obtain ⟨Z', rfl, rfl, hI2, hk2, -⟩ := hq; have hF := kp_lo (b := 78) hk2 (by rfl) (by decide); (try dsimp only at hF); (try have hFr : ∀ o, o < 78 → Z' o = Z o := fun o ho => (hF o (by omega)).trans (by (repeat (first | ((with_reducible show upZ _ _ _ _ _ = _); refine (upo (by omega)).trans ?_) | ((with_reducible show zrZ _ _ _ = _); refine (zro (by omega)).trans ?_) | fail)); (first | exact hFr o (by omega) | rfl))))
         | (obtain ⟨Z', rfl, rfl, hI2, hk2⟩ := hq; have hF := kp_lo (b := 78) hk2 (by rfl) (by decide); (try dsimp only at hF); (try have hFr : ∀ o, o < 78 → Z' o = Z o := fun o ho => (hF o (by omega)).trans (by (repeat (first | ((with_reducible show upZ _ _ _ _ _ = _); refine (upo (by omega)).trans ?_) | ((with_reducible show zrZ _ _ _ = _); refine (zro (by omega)).trans ?_) | fail)); (first | exact hFr o (by omega) | rfl))))
         | (obtain ⟨Z', rfl, rfl, hI2⟩ := hq))
      | (intro hc; (try simp only [cmp3_c] at hc); simp only [cmpI] at hc; first | (exfalso; revert hc; decide; done) | skip))
    all_goals first
      | with_reducible rfl
      | ((with_reducible show recvG _ _); rfl)
      | trivial
      | decide
      | ((with_reducible show preT _ _ _); show _ = RT _; (repeat (first | ((with_reducible show upR _ _ _ _ = _); refine up_RT ?_ (by decide +kernel)) | ((with_reducible show zrR _ _ = _); refine zr_RT ?_ (by decide +kernel)) | exact congrArg RT (by decide) | fail)))
      | ((with_reducible show _ = RT _); (repeat (first | ((with_reducible show upR _ _ _ _ = _); refine up_RT ?_ (by decide +kernel)) | ((with_reducible show zrR _ _ = _); refine zr_RT ?_ (by decide +kernel)) | exact congrArg RT (by decide) | fail)))
      | ((with_reducible show _ = R0); refine Eq.trans (b := RT 128) ?_ RT_all; (repeat (first | ((with_reducible show upR _ _ _ _ = _); refine up_RT ?_ (by decide +kernel)) | ((with_reducible show zrR _ _ = _); refine zr_RT ?_ (by decide +kernel)) | exact congrArg RT (by decide) | fail)))
      | ((with_reducible show CI _); (repeat (first | with_reducible assumption | ((with_reducible refine cix_m ?_ ?_) <;> assumption) | ((with_reducible refine cix_b70 (by assumption) ?_ ?_ ?_) <;> decide) | ((with_reducible refine cix_b72 (by assumption) ?_ ?_ ?_) <;> decide) | ((with_reducible refine cix_b74 (by assumption) ?_ ?_ ?_) <;> decide) | ((with_reducible refine cix_b76 (by assumption) ?_ ?_ ?_) <;> decide) | ((with_reducible show CI (zrZ _ _)); refine ci_zr ?_ (by decide +kernel)) | ((with_reducible show CI (upZ _ _ _ _)); refine ci_up ?_ (fun lo hi hb => by first | (cases hb; done) | (cases hb; exact ⟨by decide, by decide⟩))) | fail)))
      | ((with_reducible show CIx _ _); first | exact cix_of (by assumption) | assumption | exact cix_zr (by assumption) (by decide +kernel))
      | exact fun k => if_pos rfl
      | (show (0 : Int) ≤ 1872; decide)
      | (show (1872 : Int) ≤ 10000; decide)
      | (show (0 : Int) ≤ 468; decide)
      | (show (468 : Int) ≤ 10000; decide)
      | (refine Exists.intro _ (And.intro rfl (And.intro (Prod.ext rfl (Prod.ext rfl ?_)) ?_)); (first | (show _ = RT _; (repeat (first | ((with_reducible show upR _ _ _ _ = _); refine up_RT ?_ (by decide +kernel)) | ((with_reducible show zrR _ _ = _); refine zr_RT ?_ (by decide +kernel)) | exact congrArg RT (by decide) | fail))) | (show _ = R0; refine Eq.trans (b := RT 128) ?_ RT_all; (repeat (first | ((with_reducible show upR _ _ _ _ = _); refine up_RT ?_ (by decide +kernel)) | ((with_reducible show zrR _ _ = _); refine zr_RT ?_ (by decide +kernel)) | exact congrArg RT (by decide) | fail))) | rfl | fail); refine And.intro (by (repeat (first | with_reducible assumption | ((with_reducible refine cix_m ?_ ?_) <;> assumption) | ((with_reducible refine cix_b70 (by assumption) ?_ ?_ ?_) <;> decide) | ((with_reducible refine cix_b72 (by assumption) ?_ ?_ ?_) <;> decide) | ((with_reducible refine cix_b74 (by assumption) ?_ ?_ ?_) <;> decide) | ((with_reducible refine cix_b76 (by assumption) ?_ ?_ ?_) <;> decide) | ((with_reducible show CI (zrZ _ _)); refine ci_zr ?_ (by decide +kernel)) | ((with_reducible show CI (upZ _ _ _ _)); refine ci_up ?_ (fun lo hi hb => by first | (cases hb; done) | (cases hb; exact ⟨by decide, by decide⟩))) | fail))) (And.intro (fun o ho => by (repeat (first | ((with_reducible show upZ _ _ _ _ _ = _); refine (upo (by omega)).trans ?_) | ((with_reducible show zrZ _ _ _ = _); refine (zro (by omega)).trans ?_) | fail)); (first | exact hFr o (by omega) | rfl)) (by exact trivial)))
      | rfl
      | omega
      | skip
def s_X9_initF : Sp := (1, 9, 4, fun as σ => match as with
    | [.inr (.inr a0)] => ((a0 = 88) ∨ (a0 = 95)) ∧ σ.1 = a0 ∧ σ.2.2 = RT (bX9 a0) ∧ CI σ.2.1
    | _ => False, fun as σ r σ' => match as with
    | [.inr (.inr a0)] => ∃ Z' : ZT, r = none ∧ σ' = (a0 + 4, Z', RT (eX9 a0)) ∧ CI Z' ∧ (∀ o, o < a0 → Z' o = σ.2.1 o) ∧ (True)
    | _ => False)
set_option maxRecDepth 100000 in
set_option maxHeartbeats 40000000 in
theorem c_X9_initF {l : Launch} {D : va_G} {cA : Nat → ClassId} : PM l D cA yX9_init cX9_init 1 none 1 20 s_X9_initF := by
  refine of_X9_init  (fun as σ hwf hao hpre => ?_)
  obtain ⟨n, Z, R⟩ := σ
  rcases as with _ | ⟨x | x | a0, _ | ⟨v, t⟩⟩ <;> first | exact (hpre : False).elim | skip
  obtain ⟨h0, hn, hR, hI⟩ := hpre
  refine ⟨Nat.le_of_ble_eq_true rfl, fun G hG => ?_⟩
  clear hao hwf
  rcases h0 with rfl | rfl
  · obtain rfl : n = 88 := hn
    obtain rfl : R = RT 86 := hR
    have hFr : ∀ o, o < 89 → Z o = Z o := fun _ _ => rfl
    refine wp_run hG [] 400 _ _ _ _ ?_
    repeat' (first
      | with_reducible rfl
      | (refine And.intro ?_ ?_ <;> (try dsimp only))
      | (intro (r : Option PV) σ' hq
         first
         | (obtain ⟨rfl, rfl⟩ := hq)
         | (obtain ⟨Z', rfl, rfl, hI2, hF, hV⟩ := hq; (try dsimp only at hF hV); (try have hFr : ∀ o, o < 88 → Z' o = Z o := fun o ho => (hF o (by omega)).trans (by (repeat (first | ((with_reducible show upZ _ _ _ _ _ = _); refine (upo (by omega)).trans ?_) | ((with_reducible show zrZ _ _ _ = _); refine (zro (by omega)).trans ?_) | fail)); (first | exact hFr o (by omega) | rfl))))
         | (obtain ⟨Z', rfl, rfl, hI2, hk2, -⟩ := hq; have hF := kp_lo (b := 88) hk2 (by rfl) (by decide); (try dsimp only at hF); (try have hFr : ∀ o, o < 88 → Z' o = Z o := fun o ho => (hF o (by omega)).trans (by (repeat (first | ((with_reducible show upZ _ _ _ _ _ = _); refine (upo (by omega)).trans ?_) | ((with_reducible show zrZ _ _ _ = _); refine (zro (by omega)).trans ?_) | fail)); (first | exact hFr o (by omega) | rfl))))
         | (obtain ⟨Z', rfl, rfl, hI2, hk2⟩ := hq; have hF := kp_lo (b := 88) hk2 (by rfl) (by decide); (try dsimp only at hF); (try have hFr : ∀ o, o < 88 → Z' o = Z o := fun o ho => (hF o (by omega)).trans (by (repeat (first | ((with_reducible show upZ _ _ _ _ _ = _); refine (upo (by omega)).trans ?_) | ((with_reducible show zrZ _ _ _ = _); refine (zro (by omega)).trans ?_) | fail)); (first | exact hFr o (by omega) | rfl))))
         | (obtain ⟨Z', rfl, rfl, hI2⟩ := hq))
      | (intro hc; (try simp only [cmp3_c] at hc); simp only [cmpI] at hc; first | (exfalso; revert hc; decide; done) | skip))
    all_goals first
      | with_reducible rfl
      | ((with_reducible show recvG _ _); rfl)
      | trivial
      | decide
      | ((with_reducible show preT _ _ _); show _ = RT _; (repeat (first | ((with_reducible show upR _ _ _ _ = _); refine up_RT ?_ (by decide +kernel)) | ((with_reducible show zrR _ _ = _); refine zr_RT ?_ (by decide +kernel)) | exact congrArg RT (by decide) | fail)))
      | ((with_reducible show _ = RT _); (repeat (first | ((with_reducible show upR _ _ _ _ = _); refine up_RT ?_ (by decide +kernel)) | ((with_reducible show zrR _ _ = _); refine zr_RT ?_ (by decide +kernel)) | exact congrArg RT (by decide) | fail)))
      | ((with_reducible show _ = R0); refine Eq.trans (b := RT 128) ?_ RT_all; (repeat (first | ((with_reducible show upR _ _ _ _ = _); refine up_RT ?_ (by decide +kernel)) | ((with_reducible show zrR _ _ = _); refine zr_RT ?_ (by decide +kernel)) | exact congrArg RT (by decide) | fail)))
      | ((with_reducible show CI _); (repeat (first | with_reducible assumption | ((with_reducible refine cix_m ?_ ?_) <;> assumption) | ((with_reducible refine cix_b70 (by assumption) ?_ ?_ ?_) <;> decide) | ((with_reducible refine cix_b72 (by assumption) ?_ ?_ ?_) <;> decide) | ((with_reducible refine cix_b74 (by assumption) ?_ ?_ ?_) <;> decide) | ((with_reducible refine cix_b76 (by assumption) ?_ ?_ ?_) <;> decide) | ((with_reducible show CI (zrZ _ _)); refine ci_zr ?_ (by decide +kernel)) | ((with_reducible show CI (upZ _ _ _ _)); refine ci_up ?_ (fun lo hi hb => by first | (cases hb; done) | (cases hb; exact ⟨by decide, by decide⟩))) | fail)))
      | ((with_reducible show CIx _ _); first | exact cix_of (by assumption) | assumption | exact cix_zr (by assumption) (by decide +kernel))
      | exact fun k => if_pos rfl
      | (show (0 : Int) ≤ 1872; decide)
      | (show (1872 : Int) ≤ 10000; decide)
      | (show (0 : Int) ≤ 468; decide)
      | (show (468 : Int) ≤ 10000; decide)
      | (refine Exists.intro _ (And.intro rfl (And.intro (Prod.ext rfl (Prod.ext rfl ?_)) ?_)); (first | (show _ = RT _; (repeat (first | ((with_reducible show upR _ _ _ _ = _); refine up_RT ?_ (by decide +kernel)) | ((with_reducible show zrR _ _ = _); refine zr_RT ?_ (by decide +kernel)) | exact congrArg RT (by decide) | fail))) | (show _ = R0; refine Eq.trans (b := RT 128) ?_ RT_all; (repeat (first | ((with_reducible show upR _ _ _ _ = _); refine up_RT ?_ (by decide +kernel)) | ((with_reducible show zrR _ _ = _); refine zr_RT ?_ (by decide +kernel)) | exact congrArg RT (by decide) | fail))) | rfl | fail); refine And.intro (by (repeat (first | with_reducible assumption | ((with_reducible refine cix_m ?_ ?_) <;> assumption) | ((with_reducible refine cix_b70 (by assumption) ?_ ?_ ?_) <;> decide) | ((with_reducible refine cix_b72 (by assumption) ?_ ?_ ?_) <;> decide) | ((with_reducible refine cix_b74 (by assumption) ?_ ?_ ?_) <;> decide) | ((with_reducible refine cix_b76 (by assumption) ?_ ?_ ?_) <;> decide) | ((with_reducible show CI (zrZ _ _)); refine ci_zr ?_ (by decide +kernel)) | ((with_reducible show CI (upZ _ _ _ _)); refine ci_up ?_ (fun lo hi hb => by first | (cases hb; done) | (cases hb; exact ⟨by decide, by decide⟩))) | fail))) (And.intro (fun o ho => by (repeat (first | ((with_reducible show upZ _ _ _ _ _ = _); refine (upo (by omega)).trans ?_) | ((with_reducible show zrZ _ _ _ = _); refine (zro (by omega)).trans ?_) | fail)); (first | exact hFr o (by omega) | rfl)) (by exact trivial)))
      | rfl
      | omega
      | skip
  · obtain rfl : n = 95 := hn
    obtain rfl : R = RT 92 := hR
    have hFr : ∀ o, o < 96 → Z o = Z o := fun _ _ => rfl
    refine wp_run hG [] 400 _ _ _ _ ?_
    repeat' (first
      | with_reducible rfl
      | (refine And.intro ?_ ?_ <;> (try dsimp only))
      | (intro (r : Option PV) σ' hq
         first
         | (obtain ⟨rfl, rfl⟩ := hq)
         | (obtain ⟨Z', rfl, rfl, hI2, hF, hV⟩ := hq; (try dsimp only at hF hV); (try have hFr : ∀ o, o < 95 → Z' o = Z o := fun o ho => (hF o (by omega)).trans (by (repeat (first | ((with_reducible show upZ _ _ _ _ _ = _); refine (upo (by omega)).trans ?_) | ((with_reducible show zrZ _ _ _ = _); refine (zro (by omega)).trans ?_) | fail)); (first | exact hFr o (by omega) | rfl))))
         | (obtain ⟨Z', rfl, rfl, hI2, hk2, -⟩ := hq; have hF := kp_lo (b := 95) hk2 (by rfl) (by decide); (try dsimp only at hF); (try have hFr : ∀ o, o < 95 → Z' o = Z o := fun o ho => (hF o (by omega)).trans (by (repeat (first | ((with_reducible show upZ _ _ _ _ _ = _); refine (upo (by omega)).trans ?_) | ((with_reducible show zrZ _ _ _ = _); refine (zro (by omega)).trans ?_) | fail)); (first | exact hFr o (by omega) | rfl))))
         | (obtain ⟨Z', rfl, rfl, hI2, hk2⟩ := hq; have hF := kp_lo (b := 95) hk2 (by rfl) (by decide); (try dsimp only at hF); (try have hFr : ∀ o, o < 95 → Z' o = Z o := fun o ho => (hF o (by omega)).trans (by (repeat (first | ((with_reducible show upZ _ _ _ _ _ = _); refine (upo (by omega)).trans ?_) | ((with_reducible show zrZ _ _ _ = _); refine (zro (by omega)).trans ?_) | fail)); (first | exact hFr o (by omega) | rfl))))
         | (obtain ⟨Z', rfl, rfl, hI2⟩ := hq))
      | (intro hc; (try simp only [cmp3_c] at hc); simp only [cmpI] at hc; first | (exfalso; revert hc; decide; done) | skip))
    all_goals first
      | with_reducible rfl
      | ((with_reducible show recvG _ _); rfl)
      | trivial
      | decide
      | ((with_reducible show preT _ _ _); show _ = RT _; (repeat (first | ((with_reducible show upR _ _ _ _ = _); refine up_RT ?_ (by decide +kernel)) | ((with_reducible show zrR _ _ = _); refine zr_RT ?_ (by decide +kernel)) | exact congrArg RT (by decide) | fail)))
      | ((with_reducible show _ = RT _); (repeat (first | ((with_reducible show upR _ _ _ _ = _); refine up_RT ?_ (by decide +kernel)) | ((with_reducible show zrR _ _ = _); refine zr_RT ?_ (by decide +kernel)) | exact congrArg RT (by decide) | fail)))
      | ((with_reducible show _ = R0); refine Eq.trans (b := RT 128) ?_ RT_all; (repeat (first | ((with_reducible show upR _ _ _ _ = _); refine up_RT ?_ (by decide +kernel)) | ((with_reducible show zrR _ _ = _); refine zr_RT ?_ (by decide +kernel)) | exact congrArg RT (by decide) | fail)))
      | ((with_reducible show CI _); (repeat (first | with_reducible assumption | ((with_reducible refine cix_m ?_ ?_) <;> assumption) | ((with_reducible refine cix_b70 (by assumption) ?_ ?_ ?_) <;> decide) | ((with_reducible refine cix_b72 (by assumption) ?_ ?_ ?_) <;> decide) | ((with_reducible refine cix_b74 (by assumption) ?_ ?_ ?_) <;> decide) | ((with_reducible refine cix_b76 (by assumption) ?_ ?_ ?_) <;> decide) | ((with_reducible show CI (zrZ _ _)); refine ci_zr ?_ (by decide +kernel)) | ((with_reducible show CI (upZ _ _ _ _)); refine ci_up ?_ (fun lo hi hb => by first | (cases hb; done) | (cases hb; exact ⟨by decide, by decide⟩))) | fail)))
      | ((with_reducible show CIx _ _); first | exact cix_of (by assumption) | assumption | exact cix_zr (by assumption) (by decide +kernel))
      | exact fun k => if_pos rfl
      | (show (0 : Int) ≤ 1872; decide)
      | (show (1872 : Int) ≤ 10000; decide)
      | (show (0 : Int) ≤ 468; decide)
      | (show (468 : Int) ≤ 10000; decide)
      | (refine Exists.intro _ (And.intro rfl (And.intro (Prod.ext rfl (Prod.ext rfl ?_)) ?_)); (first | (show _ = RT _; (repeat (first | ((with_reducible show upR _ _ _ _ = _); refine up_RT ?_ (by decide +kernel)) | ((with_reducible show zrR _ _ = _); refine zr_RT ?_ (by decide +kernel)) | exact congrArg RT (by decide) | fail))) | (show _ = R0; refine Eq.trans (b := RT 128) ?_ RT_all; (repeat (first | ((with_reducible show upR _ _ _ _ = _); refine up_RT ?_ (by decide +kernel)) | ((with_reducible show zrR _ _ = _); refine zr_RT ?_ (by decide +kernel)) | exact congrArg RT (by decide) | fail))) | rfl | fail); refine And.intro (by (repeat (first | with_reducible assumption | ((with_reducible refine cix_m ?_ ?_) <;> assumption) | ((with_reducible refine cix_b70 (by assumption) ?_ ?_ ?_) <;> decide) | ((with_reducible refine cix_b72 (by assumption) ?_ ?_ ?_) <;> decide) | ((with_reducible refine cix_b74 (by assumption) ?_ ?_ ?_) <;> decide) | ((with_reducible refine cix_b76 (by assumption) ?_ ?_ ?_) <;> decide) | ((with_reducible show CI (zrZ _ _)); refine ci_zr ?_ (by decide +kernel)) | ((with_reducible show CI (upZ _ _ _ _)); refine ci_up ?_ (fun lo hi hb => by first | (cases hb; done) | (cases hb; exact ⟨by decide, by decide⟩))) | fail))) (And.intro (fun o ho => by (repeat (first | ((with_reducible show upZ _ _ _ _ _ = _); refine (upo (by omega)).trans ?_) | ((with_reducible show zrZ _ _ _ = _); refine (zro (by omega)).trans ?_) | fail)); (first | exact hFr o (by omega) | rfl)) (by exact trivial)))
      | rfl
      | omega
      | skip
def s_X5_initF : Sp := (1, 5, 9, fun as σ => match as with
    | [.inr (.inr a0)] => ((a0 = 8) ∨ (a0 = 19) ∨ (a0 = 37) ∨ (a0 = 54)) ∧ σ.1 = a0 ∧ σ.2.2 = RT (bX5 a0) ∧ CI σ.2.1
    | _ => False, fun as σ r σ' => match as with
    | [.inr (.inr a0)] => ∃ Z' : ZT, r = none ∧ σ' = (a0 + 9, Z', RT (eX5 a0)) ∧ CI Z' ∧ (∀ o, o < a0 → Z' o = σ.2.1 o) ∧ (True)
    | _ => False)
set_option maxRecDepth 100000 in
set_option maxHeartbeats 40000000 in
theorem c_X5_initF {l : Launch} {D : va_G} {cA : Nat → ClassId} : PM l D cA yX5_init cX5_init 1 none 1 21 s_X5_initF := by
  refine of_X5_init (c_X5_clearT) ⟨rfl, rfl⟩ (fun as σ hwf hao hpre => ?_)
  obtain ⟨n, Z, R⟩ := σ
  rcases as with _ | ⟨x | x | a0, _ | ⟨v, t⟩⟩ <;> first | exact (hpre : False).elim | skip
  obtain ⟨h0, hn, hR, hI⟩ := hpre
  refine ⟨Nat.le_of_ble_eq_true rfl, fun G hG => ?_⟩
  clear hao hwf
  rcases h0 with rfl | rfl | rfl | rfl
  · obtain rfl : n = 8 := hn
    obtain rfl : R = RT 5 := hR
    have hFr : ∀ o, o < 9 → Z o = Z o := fun _ _ => rfl
    refine wp_run hG [] 400 _ _ _ _ ?_
    repeat' (first
      | with_reducible rfl
      | (refine And.intro ?_ ?_ <;> (try dsimp only))
      | (intro (r : Option PV) σ' hq
         first
         | (obtain ⟨rfl, rfl⟩ := hq)
         | (obtain ⟨Z', rfl, rfl, hI2, hF, hV⟩ := hq; (try dsimp only at hF hV); (try have hFr : ∀ o, o < 8 → Z' o = Z o := fun o ho => (hF o (by omega)).trans (by (repeat (first | ((with_reducible show upZ _ _ _ _ _ = _); refine (upo (by omega)).trans ?_) | ((with_reducible show zrZ _ _ _ = _); refine (zro (by omega)).trans ?_) | fail)); (first | exact hFr o (by omega) | rfl))))
         | (obtain ⟨Z', rfl, rfl, hI2, hk2, -⟩ := hq; have hF := kp_lo (b := 8) hk2 (by rfl) (by decide); (try dsimp only at hF); (try have hFr : ∀ o, o < 8 → Z' o = Z o := fun o ho => (hF o (by omega)).trans (by (repeat (first | ((with_reducible show upZ _ _ _ _ _ = _); refine (upo (by omega)).trans ?_) | ((with_reducible show zrZ _ _ _ = _); refine (zro (by omega)).trans ?_) | fail)); (first | exact hFr o (by omega) | rfl))))
         | (obtain ⟨Z', rfl, rfl, hI2, hk2⟩ := hq; have hF := kp_lo (b := 8) hk2 (by rfl) (by decide); (try dsimp only at hF); (try have hFr : ∀ o, o < 8 → Z' o = Z o := fun o ho => (hF o (by omega)).trans (by (repeat (first | ((with_reducible show upZ _ _ _ _ _ = _); refine (upo (by omega)).trans ?_) | ((with_reducible show zrZ _ _ _ = _); refine (zro (by omega)).trans ?_) | fail)); (first | exact hFr o (by omega) | rfl))))
         | (obtain ⟨Z', rfl, rfl, hI2⟩ := hq))
      | (intro hc; (try simp only [cmp3_c] at hc); simp only [cmpI] at hc; first | (exfalso; revert hc; decide; done) | skip))
    all_goals first
      | with_reducible rfl
      | ((with_reducible show recvG _ _); rfl)
      | trivial
      | decide
      | ((with_reducible show preT _ _ _); show _ = RT _; (repeat (first | ((with_reducible show upR _ _ _ _ = _); refine up_RT ?_ (by decide +kernel)) | ((with_reducible show zrR _ _ = _); refine zr_RT ?_ (by decide +kernel)) | exact congrArg RT (by decide) | fail)))
      | ((with_reducible show _ = RT _); (repeat (first | ((with_reducible show upR _ _ _ _ = _); refine up_RT ?_ (by decide +kernel)) | ((with_reducible show zrR _ _ = _); refine zr_RT ?_ (by decide +kernel)) | exact congrArg RT (by decide) | fail)))
      | ((with_reducible show _ = R0); refine Eq.trans (b := RT 128) ?_ RT_all; (repeat (first | ((with_reducible show upR _ _ _ _ = _); refine up_RT ?_ (by decide +kernel)) | ((with_reducible show zrR _ _ = _); refine zr_RT ?_ (by decide +kernel)) | exact congrArg RT (by decide) | fail)))
      | ((with_reducible show CI _); (repeat (first | with_reducible assumption | ((with_reducible refine cix_m ?_ ?_) <;> assumption) | ((with_reducible refine cix_b70 (by assumption) ?_ ?_ ?_) <;> decide) | ((with_reducible refine cix_b72 (by assumption) ?_ ?_ ?_) <;> decide) | ((with_reducible refine cix_b74 (by assumption) ?_ ?_ ?_) <;> decide) | ((with_reducible refine cix_b76 (by assumption) ?_ ?_ ?_) <;> decide) | ((with_reducible show CI (zrZ _ _)); refine ci_zr ?_ (by decide +kernel)) | ((with_reducible show CI (upZ _ _ _ _)); refine ci_up ?_ (fun lo hi hb => by first | (cases hb; done) | (cases hb; exact ⟨by decide, by decide⟩))) | fail)))
      | ((with_reducible show CIx _ _); first | exact cix_of (by assumption) | assumption | exact cix_zr (by assumption) (by decide +kernel))
      | exact fun k => if_pos rfl
      | (show (0 : Int) ≤ 1872; decide)
      | (show (1872 : Int) ≤ 10000; decide)
      | (show (0 : Int) ≤ 468; decide)
      | (show (468 : Int) ≤ 10000; decide)
      | (refine Exists.intro _ (And.intro rfl (And.intro (Prod.ext rfl (Prod.ext rfl ?_)) ?_)); (first | (show _ = RT _; (repeat (first | ((with_reducible show upR _ _ _ _ = _); refine up_RT ?_ (by decide +kernel)) | ((with_reducible show zrR _ _ = _); refine zr_RT ?_ (by decide +kernel)) | exact congrArg RT (by decide) | fail))) | (show _ = R0; refine Eq.trans (b := RT 128) ?_ RT_all; (repeat (first | ((with_reducible show upR _ _ _ _ = _); refine up_RT ?_ (by decide +kernel)) | ((with_reducible show zrR _ _ = _); refine zr_RT ?_ (by decide +kernel)) | exact congrArg RT (by decide) | fail))) | rfl | fail); refine And.intro (by (repeat (first | with_reducible assumption | ((with_reducible refine cix_m ?_ ?_) <;> assumption) | ((with_reducible refine cix_b70 (by assumption) ?_ ?_ ?_) <;> decide) | ((with_reducible refine cix_b72 (by assumption) ?_ ?_ ?_) <;> decide) | ((with_reducible refine cix_b74 (by assumption) ?_ ?_ ?_) <;> decide) | ((with_reducible refine cix_b76 (by assumption) ?_ ?_ ?_) <;> decide) | ((with_reducible show CI (zrZ _ _)); refine ci_zr ?_ (by decide +kernel)) | ((with_reducible show CI (upZ _ _ _ _)); refine ci_up ?_ (fun lo hi hb => by first | (cases hb; done) | (cases hb; exact ⟨by decide, by decide⟩))) | fail))) (And.intro (fun o ho => by (repeat (first | ((with_reducible show upZ _ _ _ _ _ = _); refine (upo (by omega)).trans ?_) | ((with_reducible show zrZ _ _ _ = _); refine (zro (by omega)).trans ?_) | fail)); (first | exact hFr o (by omega) | rfl)) (by exact trivial)))
      | rfl
      | omega
      | skip
  · obtain rfl : n = 19 := hn
    obtain rfl : R = RT 16 := hR
    have hFr : ∀ o, o < 20 → Z o = Z o := fun _ _ => rfl
    refine wp_run hG [] 400 _ _ _ _ ?_
    repeat' (first
      | with_reducible rfl
      | (refine And.intro ?_ ?_ <;> (try dsimp only))
      | (intro (r : Option PV) σ' hq
         first
         | (obtain ⟨rfl, rfl⟩ := hq)
         | (obtain ⟨Z', rfl, rfl, hI2, hF, hV⟩ := hq; (try dsimp only at hF hV); (try have hFr : ∀ o, o < 19 → Z' o = Z o := fun o ho => (hF o (by omega)).trans (by (repeat (first | ((with_reducible show upZ _ _ _ _ _ = _); refine (upo (by omega)).trans ?_) | ((with_reducible show zrZ _ _ _ = _); refine (zro (by omega)).trans ?_) | fail)); (first | exact hFr o (by omega) | rfl))))
         | (obtain ⟨Z', rfl, rfl, hI2, hk2, -⟩ := hq; have hF := kp_lo (b := 19) hk2 (by rfl) (by decide); (try dsimp only at hF); (try have hFr : ∀ o, o < 19 → Z' o = Z o := fun o ho => (hF o (by omega)).trans (by (repeat (first | ((with_reducible show upZ _ _ _ _ _ = _); refine (upo (by omega)).trans ?_) | ((with_reducible show zrZ _ _ _ = _); refine (zro (by omega)).trans ?_) | fail)); (first | exact hFr o (by omega) | rfl))))
         | (obtain ⟨Z', rfl, rfl, hI2, hk2⟩ := hq; have hF := kp_lo (b := 19) hk2 (by rfl) (by decide); (try dsimp only at hF); (try have hFr : ∀ o, o < 19 → Z' o = Z o := fun o ho => (hF o (by omega)).trans (by (repeat (first | ((with_reducible show upZ _ _ _ _ _ = _); refine (upo (by omega)).trans ?_) | ((with_reducible show zrZ _ _ _ = _); refine (zro (by omega)).trans ?_) | fail)); (first | exact hFr o (by omega) | rfl))))
         | (obtain ⟨Z', rfl, rfl, hI2⟩ := hq))
      | (intro hc; (try simp only [cmp3_c] at hc); simp only [cmpI] at hc; first | (exfalso; revert hc; decide; done) | skip))
    all_goals first
      | with_reducible rfl
      | ((with_reducible show recvG _ _); rfl)
      | trivial
      | decide
      | ((with_reducible show preT _ _ _); show _ = RT _; (repeat (first | ((with_reducible show upR _ _ _ _ = _); refine up_RT ?_ (by decide +kernel)) | ((with_reducible show zrR _ _ = _); refine zr_RT ?_ (by decide +kernel)) | exact congrArg RT (by decide) | fail)))
      | ((with_reducible show _ = RT _); (repeat (first | ((with_reducible show upR _ _ _ _ = _); refine up_RT ?_ (by decide +kernel)) | ((with_reducible show zrR _ _ = _); refine zr_RT ?_ (by decide +kernel)) | exact congrArg RT (by decide) | fail)))
      | ((with_reducible show _ = R0); refine Eq.trans (b := RT 128) ?_ RT_all; (repeat (first | ((with_reducible show upR _ _ _ _ = _); refine up_RT ?_ (by decide +kernel)) | ((with_reducible show zrR _ _ = _); refine zr_RT ?_ (by decide +kernel)) | exact congrArg RT (by decide) | fail)))
      | ((with_reducible show CI _); (repeat (first | with_reducible assumption | ((with_reducible refine cix_m ?_ ?_) <;> assumption) | ((with_reducible refine cix_b70 (by assumption) ?_ ?_ ?_) <;> decide) | ((with_reducible refine cix_b72 (by assumption) ?_ ?_ ?_) <;> decide) | ((with_reducible refine cix_b74 (by assumption) ?_ ?_ ?_) <;> decide) | ((with_reducible refine cix_b76 (by assumption) ?_ ?_ ?_) <;> decide) | ((with_reducible show CI (zrZ _ _)); refine ci_zr ?_ (by decide +kernel)) | ((with_reducible show CI (upZ _ _ _ _)); refine ci_up ?_ (fun lo hi hb => by first | (cases hb; done) | (cases hb; exact ⟨by decide, by decide⟩))) | fail)))
      | ((with_reducible show CIx _ _); first | exact cix_of (by assumption) | assumption | exact cix_zr (by assumption) (by decide +kernel))
      | exact fun k => if_pos rfl
      | (show (0 : Int) ≤ 1872; decide)
      | (show (1872 : Int) ≤ 10000; decide)
      | (show (0 : Int) ≤ 468; decide)
      | (show (468 : Int) ≤ 10000; decide)
      | (refine Exists.intro _ (And.intro rfl (And.intro (Prod.ext rfl (Prod.ext rfl ?_)) ?_)); (first | (show _ = RT _; (repeat (first | ((with_reducible show upR _ _ _ _ = _); refine up_RT ?_ (by decide +kernel)) | ((with_reducible show zrR _ _ = _); refine zr_RT ?_ (by decide +kernel)) | exact congrArg RT (by decide) | fail))) | (show _ = R0; refine Eq.trans (b := RT 128) ?_ RT_all; (repeat (first | ((with_reducible show upR _ _ _ _ = _); refine up_RT ?_ (by decide +kernel)) | ((with_reducible show zrR _ _ = _); refine zr_RT ?_ (by decide +kernel)) | exact congrArg RT (by decide) | fail))) | rfl | fail); refine And.intro (by (repeat (first | with_reducible assumption | ((with_reducible refine cix_m ?_ ?_) <;> assumption) | ((with_reducible refine cix_b70 (by assumption) ?_ ?_ ?_) <;> decide) | ((with_reducible refine cix_b72 (by assumption) ?_ ?_ ?_) <;> decide) | ((with_reducible refine cix_b74 (by assumption) ?_ ?_ ?_) <;> decide) | ((with_reducible refine cix_b76 (by assumption) ?_ ?_ ?_) <;> decide) | ((with_reducible show CI (zrZ _ _)); refine ci_zr ?_ (by decide +kernel)) | ((with_reducible show CI (upZ _ _ _ _)); refine ci_up ?_ (fun lo hi hb => by first | (cases hb; done) | (cases hb; exact ⟨by decide, by decide⟩))) | fail))) (And.intro (fun o ho => by (repeat (first | ((with_reducible show upZ _ _ _ _ _ = _); refine (upo (by omega)).trans ?_) | ((with_reducible show zrZ _ _ _ = _); refine (zro (by omega)).trans ?_) | fail)); (first | exact hFr o (by omega) | rfl)) (by exact trivial)))
      | rfl
      | omega
      | skip
  · obtain rfl : n = 37 := hn
    obtain rfl : R = RT 33 := hR
    have hFr : ∀ o, o < 38 → Z o = Z o := fun _ _ => rfl
    refine wp_run hG [] 400 _ _ _ _ ?_
    repeat' (first
      | with_reducible rfl
      | (refine And.intro ?_ ?_ <;> (try dsimp only))
      | (intro (r : Option PV) σ' hq
         first
         | (obtain ⟨rfl, rfl⟩ := hq)
         | (obtain ⟨Z', rfl, rfl, hI2, hF, hV⟩ := hq; (try dsimp only at hF hV); (try have hFr : ∀ o, o < 37 → Z' o = Z o := fun o ho => (hF o (by omega)).trans (by (repeat (first | ((with_reducible show upZ _ _ _ _ _ = _); refine (upo (by omega)).trans ?_) | ((with_reducible show zrZ _ _ _ = _); refine (zro (by omega)).trans ?_) | fail)); (first | exact hFr o (by omega) | rfl))))
         | (obtain ⟨Z', rfl, rfl, hI2, hk2, -⟩ := hq; have hF := kp_lo (b := 37) hk2 (by rfl) (by decide); (try dsimp only at hF); (try have hFr : ∀ o, o < 37 → Z' o = Z o := fun o ho => (hF o (by omega)).trans (by (repeat (first | ((with_reducible show upZ _ _ _ _ _ = _); refine (upo (by omega)).trans ?_) | ((with_reducible show zrZ _ _ _ = _); refine (zro (by omega)).trans ?_) | fail)); (first | exact hFr o (by omega) | rfl))))
         | (obtain ⟨Z', rfl, rfl, hI2, hk2⟩ := hq; have hF := kp_lo (b := 37) hk2 (by rfl) (by decide); (try dsimp only at hF); (try have hFr : ∀ o, o < 37 → Z' o = Z o := fun o ho => (hF o (by omega)).trans (by (repeat (first | ((with_reducible show upZ _ _ _ _ _ = _); refine (upo (by omega)).trans ?_) | ((with_reducible show zrZ _ _ _ = _); refine (zro (by omega)).trans ?_) | fail)); (first | exact hFr o (by omega) | rfl))))
         | (obtain ⟨Z', rfl, rfl, hI2⟩ := hq))
      | (intro hc; (try simp only [cmp3_c] at hc); simp only [cmpI] at hc; first | (exfalso; revert hc; decide; done) | skip))
    all_goals first
      | with_reducible rfl
      | ((with_reducible show recvG _ _); rfl)
      | trivial
      | decide
      | ((with_reducible show preT _ _ _); show _ = RT _; (repeat (first | ((with_reducible show upR _ _ _ _ = _); refine up_RT ?_ (by decide +kernel)) | ((with_reducible show zrR _ _ = _); refine zr_RT ?_ (by decide +kernel)) | exact congrArg RT (by decide) | fail)))
      | ((with_reducible show _ = RT _); (repeat (first | ((with_reducible show upR _ _ _ _ = _); refine up_RT ?_ (by decide +kernel)) | ((with_reducible show zrR _ _ = _); refine zr_RT ?_ (by decide +kernel)) | exact congrArg RT (by decide) | fail)))
      | ((with_reducible show _ = R0); refine Eq.trans (b := RT 128) ?_ RT_all; (repeat (first | ((with_reducible show upR _ _ _ _ = _); refine up_RT ?_ (by decide +kernel)) | ((with_reducible show zrR _ _ = _); refine zr_RT ?_ (by decide +kernel)) | exact congrArg RT (by decide) | fail)))
      | ((with_reducible show CI _); (repeat (first | with_reducible assumption | ((with_reducible refine cix_m ?_ ?_) <;> assumption) | ((with_reducible refine cix_b70 (by assumption) ?_ ?_ ?_) <;> decide) | ((with_reducible refine cix_b72 (by assumption) ?_ ?_ ?_) <;> decide) | ((with_reducible refine cix_b74 (by assumption) ?_ ?_ ?_) <;> decide) | ((with_reducible refine cix_b76 (by assumption) ?_ ?_ ?_) <;> decide) | ((with_reducible show CI (zrZ _ _)); refine ci_zr ?_ (by decide +kernel)) | ((with_reducible show CI (upZ _ _ _ _)); refine ci_up ?_ (fun lo hi hb => by first | (cases hb; done) | (cases hb; exact ⟨by decide, by decide⟩))) | fail)))
      | ((with_reducible show CIx _ _); first | exact cix_of (by assumption) | assumption | exact cix_zr (by assumption) (by decide +kernel))
      | exact fun k => if_pos rfl
      | (show (0 : Int) ≤ 1872; decide)
      | (show (1872 : Int) ≤ 10000; decide)
      | (show (0 : Int) ≤ 468; decide)
      | (show (468 : Int) ≤ 10000; decide)
      | (refine Exists.intro _ (And.intro rfl (And.intro (Prod.ext rfl (Prod.ext rfl ?_)) ?_)); (first | (show _ = RT _; (repeat (first | ((with_reducible show upR _ _ _ _ = _); refine up_RT ?_ (by decide +kernel)) | ((with_reducible show zrR _ _ = _); refine zr_RT ?_ (by decide +kernel)) | exact congrArg RT (by decide) | fail))) | (show _ = R0; refine Eq.trans (b := RT 128) ?_ RT_all; (repeat (first | ((with_reducible show upR _ _ _ _ = _); refine up_RT ?_ (by decide +kernel)) | ((with_reducible show zrR _ _ = _); refine zr_RT ?_ (by decide +kernel)) | exact congrArg RT (by decide) | fail))) | rfl | fail); refine And.intro (by (repeat (first | with_reducible assumption | ((with_reducible refine cix_m ?_ ?_) <;> assumption) | ((with_reducible refine cix_b70 (by assumption) ?_ ?_ ?_) <;> decide) | ((with_reducible refine cix_b72 (by assumption) ?_ ?_ ?_) <;> decide) | ((with_reducible refine cix_b74 (by assumption) ?_ ?_ ?_) <;> decide) | ((with_reducible refine cix_b76 (by assumption) ?_ ?_ ?_) <;> decide) | ((with_reducible show CI (zrZ _ _)); refine ci_zr ?_ (by decide +kernel)) | ((with_reducible show CI (upZ _ _ _ _)); refine ci_up ?_ (fun lo hi hb => by first | (cases hb; done) | (cases hb; exact ⟨by decide, by decide⟩))) | fail))) (And.intro (fun o ho => by (repeat (first | ((with_reducible show upZ _ _ _ _ _ = _); refine (upo (by omega)).trans ?_) | ((with_reducible show zrZ _ _ _ = _); refine (zro (by omega)).trans ?_) | fail)); (first | exact hFr o (by omega) | rfl)) (by exact trivial)))
      | rfl
      | omega
      | skip
  · obtain rfl : n = 54 := hn
    obtain rfl : R = RT 50 := hR
    have hFr : ∀ o, o < 55 → Z o = Z o := fun _ _ => rfl
    refine wp_run hG [] 400 _ _ _ _ ?_
    repeat' (first
      | with_reducible rfl
      | (refine And.intro ?_ ?_ <;> (try dsimp only))
      | (intro (r : Option PV) σ' hq
         first
         | (obtain ⟨rfl, rfl⟩ := hq)
         | (obtain ⟨Z', rfl, rfl, hI2, hF, hV⟩ := hq; (try dsimp only at hF hV); (try have hFr : ∀ o, o < 54 → Z' o = Z o := fun o ho => (hF o (by omega)).trans (by (repeat (first | ((with_reducible show upZ _ _ _ _ _ = _); refine (upo (by omega)).trans ?_) | ((with_reducible show zrZ _ _ _ = _); refine (zro (by omega)).trans ?_) | fail)); (first | exact hFr o (by omega) | rfl))))
         | (obtain ⟨Z', rfl, rfl, hI2, hk2, -⟩ := hq; have hF := kp_lo (b := 54) hk2 (by rfl) (by decide); (try dsimp only at hF); (try have hFr : ∀ o, o < 54 → Z' o = Z o := fun o ho => (hF o (by omega)).trans (by (repeat (first | ((with_reducible show upZ _ _ _ _ _ = _); refine (upo (by omega)).trans ?_) | ((with_reducible show zrZ _ _ _ = _); refine (zro (by omega)).trans ?_) | fail)); (first | exact hFr o (by omega) | rfl))))
         | (obtain ⟨Z', rfl, rfl, hI2, hk2⟩ := hq; have hF := kp_lo (b := 54) hk2 (by rfl) (by decide); (try dsimp only at hF); (try have hFr : ∀ o, o < 54 → Z' o = Z o := fun o ho => (hF o (by omega)).trans (by (repeat (first | ((with_reducible show upZ _ _ _ _ _ = _); refine (upo (by omega)).trans ?_) | ((with_reducible show zrZ _ _ _ = _); refine (zro (by omega)).trans ?_) | fail)); (first | exact hFr o (by omega) | rfl))))
         | (obtain ⟨Z', rfl, rfl, hI2⟩ := hq))
      | (intro hc; (try simp only [cmp3_c] at hc); simp only [cmpI] at hc; first | (exfalso; revert hc; decide; done) | skip))
    all_goals first
      | with_reducible rfl
      | ((with_reducible show recvG _ _); rfl)
      | trivial
      | decide
      | ((with_reducible show preT _ _ _); show _ = RT _; (repeat (first | ((with_reducible show upR _ _ _ _ = _); refine up_RT ?_ (by decide +kernel)) | ((with_reducible show zrR _ _ = _); refine zr_RT ?_ (by decide +kernel)) | exact congrArg RT (by decide) | fail)))
      | ((with_reducible show _ = RT _); (repeat (first | ((with_reducible show upR _ _ _ _ = _); refine up_RT ?_ (by decide +kernel)) | ((with_reducible show zrR _ _ = _); refine zr_RT ?_ (by decide +kernel)) | exact congrArg RT (by decide) | fail)))
      | ((with_reducible show _ = R0); refine Eq.trans (b := RT 128) ?_ RT_all; (repeat (first | ((with_reducible show upR _ _ _ _ = _); refine up_RT ?_ (by decide +kernel)) | ((with_reducible show zrR _ _ = _); refine zr_RT ?_ (by decide +kernel)) | exact congrArg RT (by decide) | fail)))
      | ((with_reducible show CI _); (repeat (first | with_reducible assumption | ((with_reducible refine cix_m ?_ ?_) <;> assumption) | ((with_reducible refine cix_b70 (by assumption) ?_ ?_ ?_) <;> decide) | ((with_reducible refine cix_b72 (by assumption) ?_ ?_ ?_) <;> decide) | ((with_reducible refine cix_b74 (by assumption) ?_ ?_ ?_) <;> decide) | ((with_reducible refine cix_b76 (by assumption) ?_ ?_ ?_) <;> decide) | ((with_reducible show CI (zrZ _ _)); refine ci_zr ?_ (by decide +kernel)) | ((with_reducible show CI (upZ _ _ _ _)); refine ci_up ?_ (fun lo hi hb => by first | (cases hb; done) | (cases hb; exact ⟨by decide, by decide⟩))) | fail)))
      | ((with_reducible show CIx _ _); first | exact cix_of (by assumption) | assumption | exact cix_zr (by assumption) (by decide +kernel))
      | exact fun k => if_pos rfl
      | (show (0 : Int) ≤ 1872; decide)
      | (show (1872 : Int) ≤ 10000; decide)
      | (show (0 : Int) ≤ 468; decide)
      | (show (468 : Int) ≤ 10000; decide)
      | (refine Exists.intro _ (And.intro rfl (And.intro (Prod.ext rfl (Prod.ext rfl ?_)) ?_)); (first | (show _ = RT _; (repeat (first | ((with_reducible show upR _ _ _ _ = _); refine up_RT ?_ (by decide +kernel)) | ((with_reducible show zrR _ _ = _); refine zr_RT ?_ (by decide +kernel)) | exact congrArg RT (by decide) | fail))) | (show _ = R0; refine Eq.trans (b := RT 128) ?_ RT_all; (repeat (first | ((with_reducible show upR _ _ _ _ = _); refine up_RT ?_ (by decide +kernel)) | ((with_reducible show zrR _ _ = _); refine zr_RT ?_ (by decide +kernel)) | exact congrArg RT (by decide) | fail))) | rfl | fail); refine And.intro (by (repeat (first | with_reducible assumption | ((with_reducible refine cix_m ?_ ?_) <;> assumption) | ((with_reducible refine cix_b70 (by assumption) ?_ ?_ ?_) <;> decide) | ((with_reducible refine cix_b72 (by assumption) ?_ ?_ ?_) <;> decide) | ((with_reducible refine cix_b74 (by assumption) ?_ ?_ ?_) <;> decide) | ((with_reducible refine cix_b76 (by assumption) ?_ ?_ ?_) <;> decide) | ((with_reducible show CI (zrZ _ _)); refine ci_zr ?_ (by decide +kernel)) | ((with_reducible show CI (upZ _ _ _ _)); refine ci_up ?_ (fun lo hi hb => by first | (cases hb; done) | (cases hb; exact ⟨by decide, by decide⟩))) | fail))) (And.intro (fun o ho => by (repeat (first | ((with_reducible show upZ _ _ _ _ _ = _); refine (upo (by omega)).trans ?_) | ((with_reducible show zrZ _ _ _ = _); refine (zro (by omega)).trans ?_) | fail)); (first | exact hFr o (by omega) | rfl)) (by exact trivial)))
      | rfl
      | omega
      | skip
def s_X2_initF : Sp := (1, 2, 1, fun as σ => match as with
    | [.inr (.inr a0)] => ((a0 = 86)) ∧ σ.1 = a0 ∧ σ.2.2 = RT (bX2 a0) ∧ CI σ.2.1
    | _ => False, fun as σ r σ' => match as with
    | [.inr (.inr a0)] => ∃ Z' : ZT, r = none ∧ σ' = (a0 + 1, Z', RT (eX2 a0)) ∧ CI Z' ∧ (∀ o, o < a0 → Z' o = σ.2.1 o) ∧ (∀ k : Nat, k < 6 → Z' 87 k = 5)
    | _ => False)
set_option maxRecDepth 100000 in
set_option maxHeartbeats 40000000 in
theorem c_X2_initF {l : Launch} {D : va_G} {cA : Nat → ClassId} : PM l D cA yX2_init cX2_init 2 none 1 20 s_X2_initF := by
  refine of_X2_init  (fun as σ hwf hao hpre => ?_)
  obtain ⟨n, Z, R⟩ := σ
  rcases as with _ | ⟨x | x | a0, _ | ⟨v, t⟩⟩ <;> first | exact (hpre : False).elim | skip
  obtain ⟨h0, hn, hR, hI⟩ := hpre
  refine ⟨Nat.le_of_ble_eq_true rfl, fun G hG => ?_⟩
  clear hao hwf
  rcases h0 with rfl
  · obtain rfl : n = 86 := hn
    obtain rfl : R = RT 84 := hR
    have hFr : ∀ o, o < 87 → Z o = Z o := fun _ _ => rfl
    refine wp_run hG [] 400 _ _ _ _ ?_
    repeat' (first
      | with_reducible rfl
      | (refine And.intro ?_ ?_ <;> (try dsimp only))
      | (intro (r : Option PV) σ' hq
         first
         | (obtain ⟨rfl, rfl⟩ := hq)
         | (obtain ⟨Z', rfl, rfl, hI2, hF, hV⟩ := hq; (try dsimp only at hF hV); (try have hFr : ∀ o, o < 86 → Z' o = Z o := fun o ho => (hF o (by omega)).trans (by (repeat (first | ((with_reducible show upZ _ _ _ _ _ = _); refine (upo (by omega)).trans ?_) | ((with_reducible show zrZ _ _ _ = _); refine (zro (by omega)).trans ?_) | fail)); (first | exact hFr o (by omega) | rfl))))
         | (obtain ⟨Z', rfl, rfl, hI2, hk2, -⟩ := hq; have hF := kp_lo (b := 86) hk2 (by rfl) (by decide); (try dsimp only at hF); (try have hFr : ∀ o, o < 86 → Z' o = Z o := fun o ho => (hF o (by omega)).trans (by (repeat (first | ((with_reducible show upZ _ _ _ _ _ = _); refine (upo (by omega)).trans ?_) | ((with_reducible show zrZ _ _ _ = _); refine (zro (by omega)).trans ?_) | fail)); (first | exact hFr o (by omega) | rfl))))
         | (obtain ⟨Z', rfl, rfl, hI2, hk2⟩ := hq; have hF := kp_lo (b := 86) hk2 (by rfl) (by decide); (try dsimp only at hF); (try have hFr : ∀ o, o < 86 → Z' o = Z o := fun o ho => (hF o (by omega)).trans (by (repeat (first | ((with_reducible show upZ _ _ _ _ _ = _); refine (upo (by omega)).trans ?_) | ((with_reducible show zrZ _ _ _ = _); refine (zro (by omega)).trans ?_) | fail)); (first | exact hFr o (by omega) | rfl))))
         | (obtain ⟨Z', rfl, rfl, hI2⟩ := hq))
      | (intro hc; (try simp only [cmp3_c] at hc); simp only [cmpI] at hc; first | (exfalso; revert hc; decide; done) | skip))
    all_goals first
      | with_reducible rfl
      | ((with_reducible show recvG _ _); rfl)
      | trivial
      | decide
      | ((with_reducible show preT _ _ _); show _ = RT _; (repeat (first | ((with_reducible show upR _ _ _ _ = _); refine up_RT ?_ (by decide +kernel)) | ((with_reducible show zrR _ _ = _); refine zr_RT ?_ (by decide +kernel)) | exact congrArg RT (by decide) | fail)))
      | ((with_reducible show _ = RT _); (repeat (first | ((with_reducible show upR _ _ _ _ = _); refine up_RT ?_ (by decide +kernel)) | ((with_reducible show zrR _ _ = _); refine zr_RT ?_ (by decide +kernel)) | exact congrArg RT (by decide) | fail)))
      | ((with_reducible show _ = R0); refine Eq.trans (b := RT 128) ?_ RT_all; (repeat (first | ((with_reducible show upR _ _ _ _ = _); refine up_RT ?_ (by decide +kernel)) | ((with_reducible show zrR _ _ = _); refine zr_RT ?_ (by decide +kernel)) | exact congrArg RT (by decide) | fail)))
      | ((with_reducible show CI _); (repeat (first | with_reducible assumption | ((with_reducible refine cix_m ?_ ?_) <;> assumption) | ((with_reducible refine cix_b70 (by assumption) ?_ ?_ ?_) <;> decide) | ((with_reducible refine cix_b72 (by assumption) ?_ ?_ ?_) <;> decide) | ((with_reducible refine cix_b74 (by assumption) ?_ ?_ ?_) <;> decide) | ((with_reducible refine cix_b76 (by assumption) ?_ ?_ ?_) <;> decide) | ((with_reducible show CI (zrZ _ _)); refine ci_zr ?_ (by decide +kernel)) | ((with_reducible show CI (upZ _ _ _ _)); refine ci_up ?_ (fun lo hi hb => by first | (cases hb; done) | (cases hb; exact ⟨by decide, by decide⟩))) | fail)))
      | ((with_reducible show CIx _ _); first | exact cix_of (by assumption) | assumption | exact cix_zr (by assumption) (by decide +kernel))
      | exact fun k => if_pos rfl
      | (show (0 : Int) ≤ 1872; decide)
      | (show (1872 : Int) ≤ 10000; decide)
      | (show (0 : Int) ≤ 468; decide)
      | (show (468 : Int) ≤ 10000; decide)
      | (refine Exists.intro _ (And.intro rfl (And.intro (Prod.ext rfl (Prod.ext rfl ?_)) ?_)); (first | (show _ = RT _; (repeat (first | ((with_reducible show upR _ _ _ _ = _); refine up_RT ?_ (by decide +kernel)) | ((with_reducible show zrR _ _ = _); refine zr_RT ?_ (by decide +kernel)) | exact congrArg RT (by decide) | fail))) | (show _ = R0; refine Eq.trans (b := RT 128) ?_ RT_all; (repeat (first | ((with_reducible show upR _ _ _ _ = _); refine up_RT ?_ (by decide +kernel)) | ((with_reducible show zrR _ _ = _); refine zr_RT ?_ (by decide +kernel)) | exact congrArg RT (by decide) | fail))) | rfl | fail); refine And.intro (by (repeat (first | with_reducible assumption | ((with_reducible refine cix_m ?_ ?_) <;> assumption) | ((with_reducible refine cix_b70 (by assumption) ?_ ?_ ?_) <;> decide) | ((with_reducible refine cix_b72 (by assumption) ?_ ?_ ?_) <;> decide) | ((with_reducible refine cix_b74 (by assumption) ?_ ?_ ?_) <;> decide) | ((with_reducible refine cix_b76 (by assumption) ?_ ?_ ?_) <;> decide) | ((with_reducible show CI (zrZ _ _)); refine ci_zr ?_ (by decide +kernel)) | ((with_reducible show CI (upZ _ _ _ _)); refine ci_up ?_ (fun lo hi hb => by first | (cases hb; done) | (cases hb; exact ⟨by decide, by decide⟩))) | fail))) (And.intro (fun o ho => by (repeat (first | ((with_reducible show upZ _ _ _ _ _ = _); refine (upo (by omega)).trans ?_) | ((with_reducible show zrZ _ _ _ = _); refine (zro (by omega)).trans ?_) | fail)); (first | exact hFr o (by omega) | rfl)) (by intro k hk; rcases k with _ | _ | _ | _ | _ | _ | k <;> first | rfl | omega)))
      | rfl
      | omega
      | skip
def s_X1_initF : Sp := (1, 1, 5, fun as σ => match as with
    | [.inr (.inr a0)] => ((a0 = 80)) ∧ σ.1 = a0 ∧ σ.2.2 = RT (bX1 a0) ∧ CI σ.2.1
    | _ => False, fun as σ r σ' => match as with
    | [.inr (.inr a0)] => ∃ Z' : ZT, r = none ∧ σ' = (a0 + 5, Z', RT (eX1 a0)) ∧ CI Z' ∧ (∀ o, o < a0 → Z' o = σ.2.1 o) ∧ (True)
    | _ => False)
set_option maxRecDepth 100000 in
set_option maxHeartbeats 40000000 in
theorem c_X1_initF {l : Launch} {D : va_G} {cA : Nat → ClassId} : PM l D cA yX1_init cX1_init 1 none 1 21 s_X1_initF := by
  refine of_X1_init (c_X1_clearToldT) ⟨rfl, rfl⟩ (fun as σ hwf hao hpre => ?_)
  obtain ⟨n, Z, R⟩ := σ
  rcases as with _ | ⟨x | x | a0, _ | ⟨v, t⟩⟩ <;> first | exact (hpre : False).elim | skip
  obtain ⟨h0, hn, hR, hI⟩ := hpre
  refine ⟨Nat.le_of_ble_eq_true rfl, fun G hG => ?_⟩
  clear hao hwf
  rcases h0 with rfl
  · obtain rfl : n = 80 := hn
    obtain rfl : R = RT 78 := hR
    have hFr : ∀ o, o < 81 → Z o = Z o := fun _ _ => rfl
    refine wp_run hG [] 400 _ _ _ _ ?_
    repeat' (first
      | with_reducible rfl
      | (refine And.intro ?_ ?_ <;> (try dsimp only))
      | (intro (r : Option PV) σ' hq
         first
         | (obtain ⟨rfl, rfl⟩ := hq)
         | (obtain ⟨Z', rfl, rfl, hI2, hF, hV⟩ := hq; (try dsimp only at hF hV); (try have hFr : ∀ o, o < 80 → Z' o = Z o := fun o ho => (hF o (by omega)).trans (by (repeat (first | ((with_reducible show upZ _ _ _ _ _ = _); refine (upo (by omega)).trans ?_) | ((with_reducible show zrZ _ _ _ = _); refine (zro (by omega)).trans ?_) | fail)); (first | exact hFr o (by omega) | rfl))))
         | (obtain ⟨Z', rfl, rfl, hI2, hk2, -⟩ := hq; have hF := kp_lo (b := 80) hk2 (by rfl) (by decide); (try dsimp only at hF); (try have hFr : ∀ o, o < 80 → Z' o = Z o := fun o ho => (hF o (by omega)).trans (by (repeat (first | ((with_reducible show upZ _ _ _ _ _ = _); refine (upo (by omega)).trans ?_) | ((with_reducible show zrZ _ _ _ = _); refine (zro (by omega)).trans ?_) | fail)); (first | exact hFr o (by omega) | rfl))))
         | (obtain ⟨Z', rfl, rfl, hI2, hk2⟩ := hq; have hF := kp_lo (b := 80) hk2 (by rfl) (by decide); (try dsimp only at hF); (try have hFr : ∀ o, o < 80 → Z' o = Z o := fun o ho => (hF o (by omega)).trans (by (repeat (first | ((with_reducible show upZ _ _ _ _ _ = _); refine (upo (by omega)).trans ?_) | ((with_reducible show zrZ _ _ _ = _); refine (zro (by omega)).trans ?_) | fail)); (first | exact hFr o (by omega) | rfl))))
         | (obtain ⟨Z', rfl, rfl, hI2⟩ := hq))
      | (intro hc; (try simp only [cmp3_c] at hc); simp only [cmpI] at hc; first | (exfalso; revert hc; decide; done) | skip))
    all_goals first
      | with_reducible rfl
      | ((with_reducible show recvG _ _); rfl)
      | trivial
      | decide
      | ((with_reducible show preT _ _ _); show _ = RT _; (repeat (first | ((with_reducible show upR _ _ _ _ = _); refine up_RT ?_ (by decide +kernel)) | ((with_reducible show zrR _ _ = _); refine zr_RT ?_ (by decide +kernel)) | exact congrArg RT (by decide) | fail)))
      | ((with_reducible show _ = RT _); (repeat (first | ((with_reducible show upR _ _ _ _ = _); refine up_RT ?_ (by decide +kernel)) | ((with_reducible show zrR _ _ = _); refine zr_RT ?_ (by decide +kernel)) | exact congrArg RT (by decide) | fail)))
      | ((with_reducible show _ = R0); refine Eq.trans (b := RT 128) ?_ RT_all; (repeat (first | ((with_reducible show upR _ _ _ _ = _); refine up_RT ?_ (by decide +kernel)) | ((with_reducible show zrR _ _ = _); refine zr_RT ?_ (by decide +kernel)) | exact congrArg RT (by decide) | fail)))
      | ((with_reducible show CI _); (repeat (first | with_reducible assumption | ((with_reducible refine cix_m ?_ ?_) <;> assumption) | ((with_reducible refine cix_b70 (by assumption) ?_ ?_ ?_) <;> decide) | ((with_reducible refine cix_b72 (by assumption) ?_ ?_ ?_) <;> decide) | ((with_reducible refine cix_b74 (by assumption) ?_ ?_ ?_) <;> decide) | ((with_reducible refine cix_b76 (by assumption) ?_ ?_ ?_) <;> decide) | ((with_reducible show CI (zrZ _ _)); refine ci_zr ?_ (by decide +kernel)) | ((with_reducible show CI (upZ _ _ _ _)); refine ci_up ?_ (fun lo hi hb => by first | (cases hb; done) | (cases hb; exact ⟨by decide, by decide⟩))) | fail)))
      | ((with_reducible show CIx _ _); first | exact cix_of (by assumption) | assumption | exact cix_zr (by assumption) (by decide +kernel))
      | exact fun k => if_pos rfl
      | (show (0 : Int) ≤ 1872; decide)
      | (show (1872 : Int) ≤ 10000; decide)
      | (show (0 : Int) ≤ 468; decide)
      | (show (468 : Int) ≤ 10000; decide)
      | (refine Exists.intro _ (And.intro rfl (And.intro (Prod.ext rfl (Prod.ext rfl ?_)) ?_)); (first | (show _ = RT _; (repeat (first | ((with_reducible show upR _ _ _ _ = _); refine up_RT ?_ (by decide +kernel)) | ((with_reducible show zrR _ _ = _); refine zr_RT ?_ (by decide +kernel)) | exact congrArg RT (by decide) | fail))) | (show _ = R0; refine Eq.trans (b := RT 128) ?_ RT_all; (repeat (first | ((with_reducible show upR _ _ _ _ = _); refine up_RT ?_ (by decide +kernel)) | ((with_reducible show zrR _ _ = _); refine zr_RT ?_ (by decide +kernel)) | exact congrArg RT (by decide) | fail))) | rfl | fail); refine And.intro (by (repeat (first | with_reducible assumption | ((with_reducible refine cix_m ?_ ?_) <;> assumption) | ((with_reducible refine cix_b70 (by assumption) ?_ ?_ ?_) <;> decide) | ((with_reducible refine cix_b72 (by assumption) ?_ ?_ ?_) <;> decide) | ((with_reducible refine cix_b74 (by assumption) ?_ ?_ ?_) <;> decide) | ((with_reducible refine cix_b76 (by assumption) ?_ ?_ ?_) <;> decide) | ((with_reducible show CI (zrZ _ _)); refine ci_zr ?_ (by decide +kernel)) | ((with_reducible show CI (upZ _ _ _ _)); refine ci_up ?_ (fun lo hi hb => by first | (cases hb; done) | (cases hb; exact ⟨by decide, by decide⟩))) | fail))) (And.intro (fun o ho => by (repeat (first | ((with_reducible show upZ _ _ _ _ _ = _); refine (upo (by omega)).trans ?_) | ((with_reducible show zrZ _ _ _ = _); refine (zro (by omega)).trans ?_) | fail)); (first | exact hFr o (by omega) | rfl)) (by exact trivial)))
      | rfl
      | omega
      | skip
def s_X3_initF : Sp := (3, 3, 1, fun as σ => match as with
    | [.inr (.inr a0), .inl a1, .inl a2] => ((a0 = 2 ∧ a1 = 3 ∧ a2 = 3) ∨ (a0 = 4 ∧ a1 = 1 ∧ a2 = 1)) ∧ σ.1 = a0 ∧ σ.2.2 = RT (bX3 a0) ∧ CIx a0 σ.2.1
    | _ => False, fun as σ r σ' => match as with
    | [.inr (.inr a0), .inl a1, .inl a2] => ∃ Z' : ZT, r = none ∧ σ' = (a0 + 1, Z', RT (eX3 a0)) ∧ CI Z' ∧ (∀ o, o < a0 → Z' o = σ.2.1 o) ∧ (True)
    | _ => False)
set_option maxRecDepth 100000 in
set_option maxHeartbeats 40000000 in
theorem c_X3_initF {l : Launch} {D : va_G} {cA : Nat → ClassId} : PM l D cA yX3_init cX3_init 3 none 2 52 s_X3_initF := by
  refine of_X3_init (c_X3_shapeT) ⟨rfl, rfl⟩ (fun as σ hwf hao hpre => ?_)
  obtain ⟨n, Z, R⟩ := σ
  rcases as with _ | ⟨x | x | a0, _ | ⟨a1 | x | x, _ | ⟨a2 | x | x, _ | ⟨v, t⟩⟩⟩⟩ <;> first | exact (hpre : False).elim | skip
  obtain ⟨h0, hn, hR, hI⟩ := hpre
  refine ⟨Nat.le_of_ble_eq_true rfl, fun G hG => ?_⟩
  clear hao hwf
  rcases h0 with ⟨rfl, rfl, rfl⟩ | ⟨rfl, rfl, rfl⟩
  · obtain rfl : n = 2 := hn
    obtain rfl : R = RT 0 := hR
    have hFr : ∀ o, o < 3 → Z o = Z o := fun _ _ => rfl
    have hI : CIx 2 Z := hI
    refine wp_run hG [] 400 _ _ _ _ ?_
    repeat' (first
      | with_reducible rfl
      | (refine And.intro ?_ ?_ <;> (try dsimp only))
      | (intro (r : Option PV) σ' hq
         first
         | (obtain ⟨rfl, rfl⟩ := hq)
         | (obtain ⟨Z', rfl, rfl, hI2, hF, hV⟩ := hq; (try dsimp only at hF hV); (try have hFr : ∀ o, o < 2 → Z' o = Z o := fun o ho => (hF o (by omega)).trans (by (repeat (first | ((with_reducible show upZ _ _ _ _ _ = _); refine (upo (by omega)).trans ?_) | ((with_reducible show zrZ _ _ _ = _); refine (zro (by omega)).trans ?_) | fail)); (first | exact hFr o (by omega) | rfl))))
         | (obtain ⟨Z', rfl, rfl, hI2, hk2, -⟩ := hq; have hF := kp_lo (b := 2) hk2 (by rfl) (by decide); (try dsimp only at hF); (try have hFr : ∀ o, o < 2 → Z' o = Z o := fun o ho => (hF o (by omega)).trans (by (repeat (first | ((with_reducible show upZ _ _ _ _ _ = _); refine (upo (by omega)).trans ?_) | ((with_reducible show zrZ _ _ _ = _); refine (zro (by omega)).trans ?_) | fail)); (first | exact hFr o (by omega) | rfl))))
         | (obtain ⟨Z', rfl, rfl, hI2, hk2⟩ := hq; have hF := kp_lo (b := 2) hk2 (by rfl) (by decide); (try dsimp only at hF); (try have hFr : ∀ o, o < 2 → Z' o = Z o := fun o ho => (hF o (by omega)).trans (by (repeat (first | ((with_reducible show upZ _ _ _ _ _ = _); refine (upo (by omega)).trans ?_) | ((with_reducible show zrZ _ _ _ = _); refine (zro (by omega)).trans ?_) | fail)); (first | exact hFr o (by omega) | rfl))))
         | (obtain ⟨Z', rfl, rfl, hI2⟩ := hq))
      | (intro hc; (try simp only [cmp3_c] at hc); simp only [cmpI] at hc; first | (exfalso; revert hc; decide; done) | skip))
    all_goals first
      | with_reducible rfl
      | ((with_reducible show recvG _ _); rfl)
      | trivial
      | decide
      | ((with_reducible show preT _ _ _); show _ = RT _; (repeat (first | ((with_reducible show upR _ _ _ _ = _); refine up_RT ?_ (by decide +kernel)) | ((with_reducible show zrR _ _ = _); refine zr_RT ?_ (by decide +kernel)) | exact congrArg RT (by decide) | fail)))
      | ((with_reducible show _ = RT _); (repeat (first | ((with_reducible show upR _ _ _ _ = _); refine up_RT ?_ (by decide +kernel)) | ((with_reducible show zrR _ _ = _); refine zr_RT ?_ (by decide +kernel)) | exact congrArg RT (by decide) | fail)))
      | ((with_reducible show _ = R0); refine Eq.trans (b := RT 128) ?_ RT_all; (repeat (first | ((with_reducible show upR _ _ _ _ = _); refine up_RT ?_ (by decide +kernel)) | ((with_reducible show zrR _ _ = _); refine zr_RT ?_ (by decide +kernel)) | exact congrArg RT (by decide) | fail)))
      | ((with_reducible show CI _); (repeat (first | with_reducible assumption | ((with_reducible refine cix_m ?_ ?_) <;> assumption) | ((with_reducible refine cix_b70 (by assumption) ?_ ?_ ?_) <;> decide) | ((with_reducible refine cix_b72 (by assumption) ?_ ?_ ?_) <;> decide) | ((with_reducible refine cix_b74 (by assumption) ?_ ?_ ?_) <;> decide) | ((with_reducible refine cix_b76 (by assumption) ?_ ?_ ?_) <;> decide) | ((with_reducible show CI (zrZ _ _)); refine ci_zr ?_ (by decide +kernel)) | ((with_reducible show CI (upZ _ _ _ _)); refine ci_up ?_ (fun lo hi hb => by first | (cases hb; done) | (cases hb; exact ⟨by decide, by decide⟩))) | fail)))
      | ((with_reducible show CIx _ _); first | exact cix_of (by assumption) | assumption | exact cix_zr (by assumption) (by decide +kernel))
      | exact fun k => if_pos rfl
      | (show (0 : Int) ≤ 1872; decide)
      | (show (1872 : Int) ≤ 10000; decide)
      | (show (0 : Int) ≤ 468; decide)
      | (show (468 : Int) ≤ 10000; decide)
      | (refine Exists.intro _ (And.intro rfl (And.intro (Prod.ext rfl (Prod.ext rfl ?_)) ?_)); (first | (show _ = RT _; (repeat (first | ((with_reducible show upR _ _ _ _ = _); refine up_RT ?_ (by decide +kernel)) | ((with_reducible show zrR _ _ = _); refine zr_RT ?_ (by decide +kernel)) | exact congrArg RT (by decide) | fail))) | (show _ = R0; refine Eq.trans (b := RT 128) ?_ RT_all; (repeat (first | ((with_reducible show upR _ _ _ _ = _); refine up_RT ?_ (by decide +kernel)) | ((with_reducible show zrR _ _ = _); refine zr_RT ?_ (by decide +kernel)) | exact congrArg RT (by decide) | fail))) | rfl | fail); refine And.intro (by (repeat (first | with_reducible assumption | ((with_reducible refine cix_m ?_ ?_) <;> assumption) | ((with_reducible refine cix_b70 (by assumption) ?_ ?_ ?_) <;> decide) | ((with_reducible refine cix_b72 (by assumption) ?_ ?_ ?_) <;> decide) | ((with_reducible refine cix_b74 (by assumption) ?_ ?_ ?_) <;> decide) | ((with_reducible refine cix_b76 (by assumption) ?_ ?_ ?_) <;> decide) | ((with_reducible show CI (zrZ _ _)); refine ci_zr ?_ (by decide +kernel)) | ((with_reducible show CI (upZ _ _ _ _)); refine ci_up ?_ (fun lo hi hb => by first | (cases hb; done) | (cases hb; exact ⟨by decide, by decide⟩))) | fail))) (And.intro (fun o ho => by (repeat (first | ((with_reducible show upZ _ _ _ _ _ = _); refine (upo (by omega)).trans ?_) | ((with_reducible show zrZ _ _ _ = _); refine (zro (by omega)).trans ?_) | fail)); (first | exact hFr o (by omega) | rfl)) (by exact trivial)))
      | rfl
      | omega
      | skip
  · obtain rfl : n = 4 := hn
    obtain rfl : R = RT 2 := hR
    have hFr : ∀ o, o < 5 → Z o = Z o := fun _ _ => rfl
    have hI : CIx 4 Z := hI
    refine wp_run hG [] 400 _ _ _ _ ?_
    repeat' (first
      | with_reducible rfl
      | (refine And.intro ?_ ?_ <;> (try dsimp only))
      | (intro (r : Option PV) σ' hq
         first
         | (obtain ⟨rfl, rfl⟩ := hq)
         | (obtain ⟨Z', rfl, rfl, hI2, hF, hV⟩ := hq; (try dsimp only at hF hV); (try have hFr : ∀ o, o < 4 → Z' o = Z o := fun o ho => (hF o (by omega)).trans (by (repeat (first | ((with_reducible show upZ _ _ _ _ _ = _); refine (upo (by omega)).trans ?_) | ((with_reducible show zrZ _ _ _ = _); refine (zro (by omega)).trans ?_) | fail)); (first | exact hFr o (by omega) | rfl))))
         | (obtain ⟨Z', rfl, rfl, hI2, hk2, -⟩ := hq; have hF := kp_lo (b := 4) hk2 (by rfl) (by decide); (try dsimp only at hF); (try have hFr : ∀ o, o < 4 → Z' o = Z o := fun o ho => (hF o (by omega)).trans (by (repeat (first | ((with_reducible show upZ _ _ _ _ _ = _); refine (upo (by omega)).trans ?_) | ((with_reducible show zrZ _ _ _ = _); refine (zro (by omega)).trans ?_) | fail)); (first | exact hFr o (by omega) | rfl))))
         | (obtain ⟨Z', rfl, rfl, hI2, hk2⟩ := hq; have hF := kp_lo (b := 4) hk2 (by rfl) (by decide); (try dsimp only at hF); (try have hFr : ∀ o, o < 4 → Z' o = Z o := fun o ho => (hF o (by omega)).trans (by (repeat (first | ((with_reducible show upZ _ _ _ _ _ = _); refine (upo (by omega)).trans ?_) | ((with_reducible show zrZ _ _ _ = _); refine (zro (by omega)).trans ?_) | fail)); (first | exact hFr o (by omega) | rfl))))
         | (obtain ⟨Z', rfl, rfl, hI2⟩ := hq))
      | (intro hc; (try simp only [cmp3_c] at hc); simp only [cmpI] at hc; first | (exfalso; revert hc; decide; done) | skip))
    all_goals first
      | with_reducible rfl
      | ((with_reducible show recvG _ _); rfl)
      | trivial
      | decide
      | ((with_reducible show preT _ _ _); show _ = RT _; (repeat (first | ((with_reducible show upR _ _ _ _ = _); refine up_RT ?_ (by decide +kernel)) | ((with_reducible show zrR _ _ = _); refine zr_RT ?_ (by decide +kernel)) | exact congrArg RT (by decide) | fail)))
      | ((with_reducible show _ = RT _); (repeat (first | ((with_reducible show upR _ _ _ _ = _); refine up_RT ?_ (by decide +kernel)) | ((with_reducible show zrR _ _ = _); refine zr_RT ?_ (by decide +kernel)) | exact congrArg RT (by decide) | fail)))
      | ((with_reducible show _ = R0); refine Eq.trans (b := RT 128) ?_ RT_all; (repeat (first | ((with_reducible show upR _ _ _ _ = _); refine up_RT ?_ (by decide +kernel)) | ((with_reducible show zrR _ _ = _); refine zr_RT ?_ (by decide +kernel)) | exact congrArg RT (by decide) | fail)))
      | ((with_reducible show CI _); (repeat (first | with_reducible assumption | ((with_reducible refine cix_m ?_ ?_) <;> assumption) | ((with_reducible refine cix_b70 (by assumption) ?_ ?_ ?_) <;> decide) | ((with_reducible refine cix_b72 (by assumption) ?_ ?_ ?_) <;> decide) | ((with_reducible refine cix_b74 (by assumption) ?_ ?_ ?_) <;> decide) | ((with_reducible refine cix_b76 (by assumption) ?_ ?_ ?_) <;> decide) | ((with_reducible show CI (zrZ _ _)); refine ci_zr ?_ (by decide +kernel)) | ((with_reducible show CI (upZ _ _ _ _)); refine ci_up ?_ (fun lo hi hb => by first | (cases hb; done) | (cases hb; exact ⟨by decide, by decide⟩))) | fail)))
      | ((with_reducible show CIx _ _); first | exact cix_of (by assumption) | assumption | exact cix_zr (by assumption) (by decide +kernel))
      | exact fun k => if_pos rfl
      | (show (0 : Int) ≤ 1872; decide)
      | (show (1872 : Int) ≤ 10000; decide)
      | (show (0 : Int) ≤ 468; decide)
      | (show (468 : Int) ≤ 10000; decide)
      | (refine Exists.intro _ (And.intro rfl (And.intro (Prod.ext rfl (Prod.ext rfl ?_)) ?_)); (first | (show _ = RT _; (repeat (first | ((with_reducible show upR _ _ _ _ = _); refine up_RT ?_ (by decide +kernel)) | ((with_reducible show zrR _ _ = _); refine zr_RT ?_ (by decide +kernel)) | exact congrArg RT (by decide) | fail))) | (show _ = R0; refine Eq.trans (b := RT 128) ?_ RT_all; (repeat (first | ((with_reducible show upR _ _ _ _ = _); refine up_RT ?_ (by decide +kernel)) | ((with_reducible show zrR _ _ = _); refine zr_RT ?_ (by decide +kernel)) | exact congrArg RT (by decide) | fail))) | rfl | fail); refine And.intro (by (repeat (first | with_reducible assumption | ((with_reducible refine cix_m ?_ ?_) <;> assumption) | ((with_reducible refine cix_b70 (by assumption) ?_ ?_ ?_) <;> decide) | ((with_reducible refine cix_b72 (by assumption) ?_ ?_ ?_) <;> decide) | ((with_reducible refine cix_b74 (by assumption) ?_ ?_ ?_) <;> decide) | ((with_reducible refine cix_b76 (by assumption) ?_ ?_ ?_) <;> decide) | ((with_reducible show CI (zrZ _ _)); refine ci_zr ?_ (by decide +kernel)) | ((with_reducible show CI (upZ _ _ _ _)); refine ci_up ?_ (fun lo hi hb => by first | (cases hb; done) | (cases hb; exact ⟨by decide, by decide⟩))) | fail))) (And.intro (fun o ho => by (repeat (first | ((with_reducible show upZ _ _ _ _ _ = _); refine (upo (by omega)).trans ?_) | ((with_reducible show zrZ _ _ _ = _); refine (zro (by omega)).trans ?_) | fail)); (first | exact hFr o (by omega) | rfl)) (by exact trivial)))
      | rfl
      | omega
      | skip
def s_X0_initF : Sp := (3, 0, 1, fun as σ => match as with
    | [.inr (.inr a0), .inl a1, .inl a2] => ((a0 = 70 ∧ a1 = 36 ∧ a2 = 0) ∨ (a0 = 72 ∧ a1 = 36 ∧ a2 = 1) ∨ (a0 = 74 ∧ a1 = 36 ∧ a2 = 1) ∨ (a0 = 76 ∧ a1 = 9 ∧ a2 = 0)) ∧ σ.1 = a0 ∧ σ.2.2 = RT (bX0 a0) ∧ CIx a0 σ.2.1
    | _ => False, fun as σ r σ' => match as with
    | [.inr (.inr a0), .inl a1, .inl a2] => ∃ Z' : ZT, r = none ∧ σ' = (a0 + 1, Z', RT (eX0 a0)) ∧ CI Z' ∧ (∀ o, o < a0 → Z' o = σ.2.1 o) ∧ (True)
    | _ => False)
set_option maxRecDepth 100000 in
set_option maxHeartbeats 40000000 in
theorem c_X0_initF {l : Launch} {D : va_G} {cA : Nat → ClassId} : PM l D cA yX0_init cX0_init 3 none 1 21 s_X0_initF := by
  refine of_X0_init (c_J9_min) ⟨rfl, rfl⟩ (c_J9_max) ⟨rfl, rfl⟩ (fun as σ hwf hao hpre => ?_)
  obtain ⟨n, Z, R⟩ := σ
  rcases as with _ | ⟨x | x | a0, _ | ⟨a1 | x | x, _ | ⟨a2 | x | x, _ | ⟨v, t⟩⟩⟩⟩ <;> first | exact (hpre : False).elim | skip
  obtain ⟨h0, hn, hR, hI⟩ := hpre
  refine ⟨Nat.le_of_ble_eq_true rfl, fun G hG => ?_⟩
  clear hao hwf
  rcases h0 with ⟨rfl, rfl, rfl⟩ | ⟨rfl, rfl, rfl⟩ | ⟨rfl, rfl, rfl⟩ | ⟨rfl, rfl, rfl⟩
  · obtain rfl : n = 70 := hn
    obtain rfl : R = RT 68 := hR
    have hFr : ∀ o, o < 71 → Z o = Z o := fun _ _ => rfl
    have hI : CIx 70 Z := hI
    refine wp_run hG [] 400 _ _ _ _ ?_
    repeat' (first
      | with_reducible rfl
      | (refine And.intro ?_ ?_ <;> (try dsimp only))
      | (intro (r : Option PV) σ' hq
         first
         | (obtain ⟨rfl, rfl⟩ := hq)
         | (obtain ⟨Z', rfl, rfl, hI2, hF, hV⟩ := hq; (try dsimp only at hF hV); (try have hFr : ∀ o, o < 70 → Z' o = Z o := fun o ho => (hF o (by omega)).trans (by (repeat (first | ((with_reducible show upZ _ _ _ _ _ = _); refine (upo (by omega)).trans ?_) | ((with_reducible show zrZ _ _ _ = _); refine (zro (by omega)).trans ?_) | fail)); (first | exact hFr o (by omega) | rfl))))
         | (obtain ⟨Z', rfl, rfl, hI2, hk2, -⟩ := hq; have hF := kp_lo (b := 70) hk2 (by rfl) (by decide); (try dsimp only at hF); (try have hFr : ∀ o, o < 70 → Z' o = Z o := fun o ho => (hF o (by omega)).trans (by (repeat (first | ((with_reducible show upZ _ _ _ _ _ = _); refine (upo (by omega)).trans ?_) | ((with_reducible show zrZ _ _ _ = _); refine (zro (by omega)).trans ?_) | fail)); (first | exact hFr o (by omega) | rfl))))
         | (obtain ⟨Z', rfl, rfl, hI2, hk2⟩ := hq; have hF := kp_lo (b := 70) hk2 (by rfl) (by decide); (try dsimp only at hF); (try have hFr : ∀ o, o < 70 → Z' o = Z o := fun o ho => (hF o (by omega)).trans (by (repeat (first | ((with_reducible show upZ _ _ _ _ _ = _); refine (upo (by omega)).trans ?_) | ((with_reducible show zrZ _ _ _ = _); refine (zro (by omega)).trans ?_) | fail)); (first | exact hFr o (by omega) | rfl))))
         | (obtain ⟨Z', rfl, rfl, hI2⟩ := hq))
      | (intro hc; (try simp only [cmp3_c] at hc); simp only [cmpI] at hc; first | (exfalso; revert hc; decide; done) | skip))
    all_goals first
      | with_reducible rfl
      | ((with_reducible show recvG _ _); rfl)
      | trivial
      | decide
      | ((with_reducible show preT _ _ _); show _ = RT _; (repeat (first | ((with_reducible show upR _ _ _ _ = _); refine up_RT ?_ (by decide +kernel)) | ((with_reducible show zrR _ _ = _); refine zr_RT ?_ (by decide +kernel)) | exact congrArg RT (by decide) | fail)))
      | ((with_reducible show _ = RT _); (repeat (first | ((with_reducible show upR _ _ _ _ = _); refine up_RT ?_ (by decide +kernel)) | ((with_reducible show zrR _ _ = _); refine zr_RT ?_ (by decide +kernel)) | exact congrArg RT (by decide) | fail)))
      | ((with_reducible show _ = R0); refine Eq.trans (b := RT 128) ?_ RT_all; (repeat (first | ((with_reducible show upR _ _ _ _ = _); refine up_RT ?_ (by decide +kernel)) | ((with_reducible show zrR _ _ = _); refine zr_RT ?_ (by decide +kernel)) | exact congrArg RT (by decide) | fail)))
      | ((with_reducible show CI _); (repeat (first | with_reducible assumption | ((with_reducible refine cix_m ?_ ?_) <;> assumption) | ((with_reducible refine cix_b70 (by assumption) ?_ ?_ ?_) <;> decide) | ((with_reducible refine cix_b72 (by assumption) ?_ ?_ ?_) <;> decide) | ((with_reducible refine cix_b74 (by assumption) ?_ ?_ ?_) <;> decide) | ((with_reducible refine cix_b76 (by assumption) ?_ ?_ ?_) <;> decide) | ((with_reducible show CI (zrZ _ _)); refine ci_zr ?_ (by decide +kernel)) | ((with_reducible show CI (upZ _ _ _ _)); refine ci_up ?_ (fun lo hi hb => by first | (cases hb; done) | (cases hb; exact ⟨by decide, by decide⟩))) | fail)))
      | ((with_reducible show CIx _ _); first | exact cix_of (by assumption) | assumption | exact cix_zr (by assumption) (by decide +kernel))
      | exact fun k => if_pos rfl
      | (show (0 : Int) ≤ 1872; decide)
      | (show (1872 : Int) ≤ 10000; decide)
      | (show (0 : Int) ≤ 468; decide)
      | (show (468 : Int) ≤ 10000; decide)
      | (refine Exists.intro _ (And.intro rfl (And.intro (Prod.ext rfl (Prod.ext rfl ?_)) ?_)); (first | (show _ = RT _; (repeat (first | ((with_reducible show upR _ _ _ _ = _); refine up_RT ?_ (by decide +kernel)) | ((with_reducible show zrR _ _ = _); refine zr_RT ?_ (by decide +kernel)) | exact congrArg RT (by decide) | fail))) | (show _ = R0; refine Eq.trans (b := RT 128) ?_ RT_all; (repeat (first | ((with_reducible show upR _ _ _ _ = _); refine up_RT ?_ (by decide +kernel)) | ((with_reducible show zrR _ _ = _); refine zr_RT ?_ (by decide +kernel)) | exact congrArg RT (by decide) | fail))) | rfl | fail); refine And.intro (by (repeat (first | with_reducible assumption | ((with_reducible refine cix_m ?_ ?_) <;> assumption) | ((with_reducible refine cix_b70 (by assumption) ?_ ?_ ?_) <;> decide) | ((with_reducible refine cix_b72 (by assumption) ?_ ?_ ?_) <;> decide) | ((with_reducible refine cix_b74 (by assumption) ?_ ?_ ?_) <;> decide) | ((with_reducible refine cix_b76 (by assumption) ?_ ?_ ?_) <;> decide) | ((with_reducible show CI (zrZ _ _)); refine ci_zr ?_ (by decide +kernel)) | ((with_reducible show CI (upZ _ _ _ _)); refine ci_up ?_ (fun lo hi hb => by first | (cases hb; done) | (cases hb; exact ⟨by decide, by decide⟩))) | fail))) (And.intro (fun o ho => by (repeat (first | ((with_reducible show upZ _ _ _ _ _ = _); refine (upo (by omega)).trans ?_) | ((with_reducible show zrZ _ _ _ = _); refine (zro (by omega)).trans ?_) | fail)); (first | exact hFr o (by omega) | rfl)) (by exact trivial)))
      | rfl
      | omega
      | skip
  · obtain rfl : n = 72 := hn
    obtain rfl : R = RT 70 := hR
    have hFr : ∀ o, o < 73 → Z o = Z o := fun _ _ => rfl
    have hI : CIx 72 Z := hI
    refine wp_run hG [] 400 _ _ _ _ ?_
    repeat' (first
      | with_reducible rfl
      | (refine And.intro ?_ ?_ <;> (try dsimp only))
      | (intro (r : Option PV) σ' hq
         first
         | (obtain ⟨rfl, rfl⟩ := hq)
         | (obtain ⟨Z', rfl, rfl, hI2, hF, hV⟩ := hq; (try dsimp only at hF hV); (try have hFr : ∀ o, o < 72 → Z' o = Z o := fun o ho => (hF o (by omega)).trans (by (repeat (first | ((with_reducible show upZ _ _ _ _ _ = _); refine (upo (by omega)).trans ?_) | ((with_reducible show zrZ _ _ _ = _); refine (zro (by omega)).trans ?_) | fail)); (first | exact hFr o (by omega) | rfl))))
         | (obtain ⟨Z', rfl, rfl, hI2, hk2, -⟩ := hq; have hF := kp_lo (b := 72) hk2 (by rfl) (by decide); (try dsimp only at hF); (try have hFr : ∀ o, o < 72 → Z' o = Z o := fun o ho => (hF o (by omega)).trans (by (repeat (first | ((with_reducible show upZ _ _ _ _ _ = _); refine (upo (by omega)).trans ?_) | ((with_reducible show zrZ _ _ _ = _); refine (zro (by omega)).trans ?_) | fail)); (first | exact hFr o (by omega) | rfl))))
         | (obtain ⟨Z', rfl, rfl, hI2, hk2⟩ := hq; have hF := kp_lo (b := 72) hk2 (by rfl) (by decide); (try dsimp only at hF); (try have hFr : ∀ o, o < 72 → Z' o = Z o := fun o ho => (hF o (by omega)).trans (by (repeat (first | ((with_reducible show upZ _ _ _ _ _ = _); refine (upo (by omega)).trans ?_) | ((with_reducible show zrZ _ _ _ = _); refine (zro (by omega)).trans ?_) | fail)); (first | exact hFr o (by omega) | rfl))))
         | (obtain ⟨Z', rfl, rfl, hI2⟩ := hq))
      | (intro hc; (try simp only [cmp3_c] at hc); simp only [cmpI] at hc; first | (exfalso; revert hc; decide; done) | skip))
    all_goals first
      | with_reducible rfl
      | ((with_reducible show recvG _ _); rfl)
      | trivial
      | decide
      | ((with_reducible show preT _ _ _); show _ = RT _; (repeat (first | ((with_reducible show upR _ _ _ _ = _); refine up_RT ?_ (by decide +kernel)) | ((with_reducible show zrR _ _ = _); refine zr_RT ?_ (by decide +kernel)) | exact congrArg RT (by decide) | fail)))
      | ((with_reducible show _ = RT _); (repeat (first | ((with_reducible show upR _ _ _ _ = _); refine up_RT ?_ (by decide +kernel)) | ((with_reducible show zrR _ _ = _); refine zr_RT ?_ (by decide +kernel)) | exact congrArg RT (by decide) | fail)))
      | ((with_reducible show _ = R0); refine Eq.trans (b := RT 128) ?_ RT_all; (repeat (first | ((with_reducible show upR _ _ _ _ = _); refine up_RT ?_ (by decide +kernel)) | ((with_reducible show zrR _ _ = _); refine zr_RT ?_ (by decide +kernel)) | exact congrArg RT (by decide) | fail)))
      | ((with_reducible show CI _); (repeat (first | with_reducible assumption | ((with_reducible refine cix_m ?_ ?_) <;> assumption) | ((with_reducible refine cix_b70 (by assumption) ?_ ?_ ?_) <;> decide) | ((with_reducible refine cix_b72 (by assumption) ?_ ?_ ?_) <;> decide) | ((with_reducible refine cix_b74 (by assumption) ?_ ?_ ?_) <;> decide) | ((with_reducible refine cix_b76 (by assumption) ?_ ?_ ?_) <;> decide) | ((with_reducible show CI (zrZ _ _)); refine ci_zr ?_ (by decide +kernel)) | ((with_reducible show CI (upZ _ _ _ _)); refine ci_up ?_ (fun lo hi hb => by first | (cases hb; done) | (cases hb; exact ⟨by decide, by decide⟩))) | fail)))
      | ((with_reducible show CIx _ _); first | exact cix_of (by assumption) | assumption | exact cix_zr (by assumption) (by decide +kernel))
      | exact fun k => if_pos rfl
      | (show (0 : Int) ≤ 1872; decide)
      | (show (1872 : Int) ≤ 10000; decide)
      | (show (0 : Int) ≤ 468; decide)
      | (show (468 : Int) ≤ 10000; decide)
      | (refine Exists.intro _ (And.intro rfl (And.intro (Prod.ext rfl (Prod.ext rfl ?_)) ?_)); (first | (show _ = RT _; (repeat (first | ((with_reducible show upR _ _ _ _ = _); refine up_RT ?_ (by decide +kernel)) | ((with_reducible show zrR _ _ = _); refine zr_RT ?_ (by decide +kernel)) | exact congrArg RT (by decide) | fail))) | (show _ = R0; refine Eq.trans (b := RT 128) ?_ RT_all; (repeat (first | ((with_reducible show upR _ _ _ _ = _); refine up_RT ?_ (by decide +kernel)) | ((with_reducible show zrR _ _ = _); refine zr_RT ?_ (by decide +kernel)) | exact congrArg RT (by decide) | fail))) | rfl | fail); refine And.intro (by (repeat (first | with_reducible assumption | ((with_reducible refine cix_m ?_ ?_) <;> assumption) | ((with_reducible refine cix_b70 (by assumption) ?_ ?_ ?_) <;> decide) | ((with_reducible refine cix_b72 (by assumption) ?_ ?_ ?_) <;> decide) | ((with_reducible refine cix_b74 (by assumption) ?_ ?_ ?_) <;> decide) | ((with_reducible refine cix_b76 (by assumption) ?_ ?_ ?_) <;> decide) | ((with_reducible show CI (zrZ _ _)); refine ci_zr ?_ (by decide +kernel)) | ((with_reducible show CI (upZ _ _ _ _)); refine ci_up ?_ (fun lo hi hb => by first | (cases hb; done) | (cases hb; exact ⟨by decide, by decide⟩))) | fail))) (And.intro (fun o ho => by (repeat (first | ((with_reducible show upZ _ _ _ _ _ = _); refine (upo (by omega)).trans ?_) | ((with_reducible show zrZ _ _ _ = _); refine (zro (by omega)).trans ?_) | fail)); (first | exact hFr o (by omega) | rfl)) (by exact trivial)))
      | rfl
      | omega
      | skip
  · obtain rfl : n = 74 := hn
    obtain rfl : R = RT 72 := hR
    have hFr : ∀ o, o < 75 → Z o = Z o := fun _ _ => rfl
    have hI : CIx 74 Z := hI
    refine wp_run hG [] 400 _ _ _ _ ?_
    repeat' (first
      | with_reducible rfl
      | (refine And.intro ?_ ?_ <;> (try dsimp only))
      | (intro (r : Option PV) σ' hq
         first
         | (obtain ⟨rfl, rfl⟩ := hq)
         | (obtain ⟨Z', rfl, rfl, hI2, hF, hV⟩ := hq; (try dsimp only at hF hV); (try have hFr : ∀ o, o < 74 → Z' o = Z o := fun o ho => (hF o (by omega)).trans (by (repeat (first | ((with_reducible show upZ _ _ _ _ _ = _); refine (upo (by omega)).trans ?_) | ((with_reducible show zrZ _ _ _ = _); refine (zro (by omega)).trans ?_) | fail)); (first | exact hFr o (by omega) | rfl))))
         | (obtain ⟨Z', rfl, rfl, hI2, hk2, -⟩ := hq; have hF := kp_lo (b := 74) hk2 (by rfl) (by decide); (try dsimp only at hF); (try have hFr : ∀ o, o < 74 → Z' o = Z o := fun o ho => (hF o (by omega)).trans (by (repeat (first | ((with_reducible show upZ _ _ _ _ _ = _); refine (upo (by omega)).trans ?_) | ((with_reducible show zrZ _ _ _ = _); refine (zro (by omega)).trans ?_) | fail)); (first | exact hFr o (by omega) | rfl))))
         | (obtain ⟨Z', rfl, rfl, hI2, hk2⟩ := hq; have hF := kp_lo (b := 74) hk2 (by rfl) (by decide); (try dsimp only at hF); (try have hFr : ∀ o, o < 74 → Z' o = Z o := fun o ho => (hF o (by omega)).trans (by (repeat (first | ((with_reducible show upZ _ _ _ _ _ = _); refine (upo (by omega)).trans ?_) | ((with_reducible show zrZ _ _ _ = _); refine (zro (by omega)).trans ?_) | fail)); (first | exact hFr o (by omega) | rfl))))
         | (obtain ⟨Z', rfl, rfl, hI2⟩ := hq))
      | (intro hc; (try simp only [cmp3_c] at hc); simp only [cmpI] at hc; first | (exfalso; revert hc; decide; done) | skip))
    all_goals first
      | with_reducible rfl
      | ((with_reducible show recvG _ _); rfl)
      | trivial
      | decide
      | ((with_reducible show preT _ _ _); show _ = RT _; (repeat (first | ((with_reducible show upR _ _ _ _ = _); refine up_RT ?_ (by decide +kernel)) | ((with_reducible show zrR _ _ = _); refine zr_RT ?_ (by decide +kernel)) | exact congrArg RT (by decide) | fail)))
      | ((with_reducible show _ = RT _); (repeat (first | ((with_reducible show upR _ _ _ _ = _); refine up_RT ?_ (by decide +kernel)) | ((with_reducible show zrR _ _ = _); refine zr_RT ?_ (by decide +kernel)) | exact congrArg RT (by decide) | fail)))
      | ((with_reducible show _ = R0); refine Eq.trans (b := RT 128) ?_ RT_all; (repeat (first | ((with_reducible show upR _ _ _ _ = _); refine up_RT ?_ (by decide +kernel)) | ((with_reducible show zrR _ _ = _); refine zr_RT ?_ (by decide +kernel)) | exact congrArg RT (by decide) | fail)))
      | ((with_reducible show CI _); (repeat (first | with_reducible assumption | ((with_reducible refine cix_m ?_ ?_) <;> assumption) | ((with_reducible refine cix_b70 (by assumption) ?_ ?_ ?_) <;> decide) | ((with_reducible refine cix_b72 (by assumption) ?_ ?_ ?_) <;> decide) | ((with_reducible refine cix_b74 (by assumption) ?_ ?_ ?_) <;> decide) | ((with_reducible refine cix_b76 (by assumption) ?_ ?_ ?_) <;> decide) | ((with_reducible show CI (zrZ _ _)); refine ci_zr ?_ (by decide +kernel)) | ((with_reducible show CI (upZ _ _ _ _)); refine ci_up ?_ (fun lo hi hb => by first | (cases hb; done) | (cases hb; exact ⟨by decide, by decide⟩))) | fail)))
      | ((with_reducible show CIx _ _); first | exact cix_of (by assumption) | assumption | exact cix_zr (by assumption) (by decide +kernel))
      | exact fun k => if_pos rfl
      | (show (0 : Int) ≤ 1872; decide)
      | (show (1872 : Int) ≤ 10000; decide)
      | (show (0 : Int) ≤ 468; decide)
      | (show (468 : Int) ≤ 10000; decide)
      | (refine Exists.intro _ (And.intro rfl (And.intro (Prod.ext rfl (Prod.ext rfl ?_)) ?_)); (first | (show _ = RT _; (repeat (first | ((with_reducible show upR _ _ _ _ = _); refine up_RT ?_ (by decide +kernel)) | ((with_reducible show zrR _ _ = _); refine zr_RT ?_ (by decide +kernel)) | exact congrArg RT (by decide) | fail))) | (show _ = R0; refine Eq.trans (b := RT 128) ?_ RT_all; (repeat (first | ((with_reducible show upR _ _ _ _ = _); refine up_RT ?_ (by decide +kernel)) | ((with_reducible show zrR _ _ = _); refine zr_RT ?_ (by decide +kernel)) | exact congrArg RT (by decide) | fail))) | rfl | fail); refine And.intro (by (repeat (first | with_reducible assumption | ((with_reducible refine cix_m ?_ ?_) <;> assumption) | ((with_reducible refine cix_b70 (by assumption) ?_ ?_ ?_) <;> decide) | ((with_reducible refine cix_b72 (by assumption) ?_ ?_ ?_) <;> decide) | ((with_reducible refine cix_b74 (by assumption) ?_ ?_ ?_) <;> decide) | ((with_reducible refine cix_b76 (by assumption) ?_ ?_ ?_) <;> decide) | ((with_reducible show CI (zrZ _ _)); refine ci_zr ?_ (by decide +kernel)) | ((with_reducible show CI (upZ _ _ _ _)); refine ci_up ?_ (fun lo hi hb => by first | (cases hb; done) | (cases hb; exact ⟨by decide, by decide⟩))) | fail))) (And.intro (fun o ho => by (repeat (first | ((with_reducible show upZ _ _ _ _ _ = _); refine (upo (by omega)).trans ?_) | ((with_reducible show zrZ _ _ _ = _); refine (zro (by omega)).trans ?_) | fail)); (first | exact hFr o (by omega) | rfl)) (by exact trivial)))
      | rfl
      | omega
      | skip
  · obtain rfl : n = 76 := hn
    obtain rfl : R = RT 74 := hR
    have hFr : ∀ o, o < 77 → Z o = Z o := fun _ _ => rfl
    have hI : CIx 76 Z := hI
    refine wp_run hG [] 400 _ _ _ _ ?_
    repeat' (first
      | with_reducible rfl
      | (refine And.intro ?_ ?_ <;> (try dsimp only))
      | (intro (r : Option PV) σ' hq
         first
         | (obtain ⟨rfl, rfl⟩ := hq)
         | (obtain ⟨Z', rfl, rfl, hI2, hF, hV⟩ := hq; (try dsimp only at hF hV); (try have hFr : ∀ o, o < 76 → Z' o = Z o := fun o ho => (hF o (by omega)).trans (by (repeat (first | ((with_reducible show upZ _ _ _ _ _ = _); refine (upo (by omega)).trans ?_) | ((with_reducible show zrZ _ _ _ = _); refine (zro (by omega)).trans ?_) | fail)); (first | exact hFr o (by omega) | rfl))))
         | (obtain ⟨Z', rfl, rfl, hI2, hk2, -⟩ := hq; have hF := kp_lo (b := 76) hk2 (by rfl) (by decide); (try dsimp only at hF); (try have hFr : ∀ o, o < 76 → Z' o = Z o := fun o ho => (hF o (by omega)).trans (by (repeat (first | ((with_reducible show upZ _ _ _ _ _ = _); refine (upo (by omega)).trans ?_) | ((with_reducible show zrZ _ _ _ = _); refine (zro (by omega)).trans ?_) | fail)); (first | exact hFr o (by omega) | rfl))))
         | (obtain ⟨Z', rfl, rfl, hI2, hk2⟩ := hq; have hF := kp_lo (b := 76) hk2 (by rfl) (by decide); (try dsimp only at hF); (try have hFr : ∀ o, o < 76 → Z' o = Z o := fun o ho => (hF o (by omega)).trans (by (repeat (first | ((with_reducible show upZ _ _ _ _ _ = _); refine (upo (by omega)).trans ?_) | ((with_reducible show zrZ _ _ _ = _); refine (zro (by omega)).trans ?_) | fail)); (first | exact hFr o (by omega) | rfl))))
         | (obtain ⟨Z', rfl, rfl, hI2⟩ := hq))
      | (intro hc; (try simp only [cmp3_c] at hc); simp only [cmpI] at hc; first | (exfalso; revert hc; decide; done) | skip))
    all_goals first
      | with_reducible rfl
      | ((with_reducible show recvG _ _); rfl)
      | trivial
      | decide
      | ((with_reducible show preT _ _ _); show _ = RT _; (repeat (first | ((with_reducible show upR _ _ _ _ = _); refine up_RT ?_ (by decide +kernel)) | ((with_reducible show zrR _ _ = _); refine zr_RT ?_ (by decide +kernel)) | exact congrArg RT (by decide) | fail)))
      | ((with_reducible show _ = RT _); (repeat (first | ((with_reducible show upR _ _ _ _ = _); refine up_RT ?_ (by decide +kernel)) | ((with_reducible show zrR _ _ = _); refine zr_RT ?_ (by decide +kernel)) | exact congrArg RT (by decide) | fail)))
      | ((with_reducible show _ = R0); refine Eq.trans (b := RT 128) ?_ RT_all; (repeat (first | ((with_reducible show upR _ _ _ _ = _); refine up_RT ?_ (by decide +kernel)) | ((with_reducible show zrR _ _ = _); refine zr_RT ?_ (by decide +kernel)) | exact congrArg RT (by decide) | fail)))
      | ((with_reducible show CI _); (repeat (first | with_reducible assumption | ((with_reducible refine cix_m ?_ ?_) <;> assumption) | ((with_reducible refine cix_b70 (by assumption) ?_ ?_ ?_) <;> decide) | ((with_reducible refine cix_b72 (by assumption) ?_ ?_ ?_) <;> decide) | ((with_reducible refine cix_b74 (by assumption) ?_ ?_ ?_) <;> decide) | ((with_reducible refine cix_b76 (by assumption) ?_ ?_ ?_) <;> decide) | ((with_reducible show CI (zrZ _ _)); refine ci_zr ?_ (by decide +kernel)) | ((with_reducible show CI (upZ _ _ _ _)); refine ci_up ?_ (fun lo hi hb => by first | (cases hb; done) | (cases hb; exact ⟨by decide, by decide⟩))) | fail)))
      | ((with_reducible show CIx _ _); first | exact cix_of (by assumption) | assumption | exact cix_zr (by assumption) (by decide +kernel))
      | exact fun k => if_pos rfl
      | (show (0 : Int) ≤ 1872; decide)
      | (show (1872 : Int) ≤ 10000; decide)
      | (show (0 : Int) ≤ 468; decide)
      | (show (468 : Int) ≤ 10000; decide)
      | (refine Exists.intro _ (And.intro rfl (And.intro (Prod.ext rfl (Prod.ext rfl ?_)) ?_)); (first | (show _ = RT _; (repeat (first | ((with_reducible show upR _ _ _ _ = _); refine up_RT ?_ (by decide +kernel)) | ((with_reducible show zrR _ _ = _); refine zr_RT ?_ (by decide +kernel)) | exact congrArg RT (by decide) | fail))) | (show _ = R0; refine Eq.trans (b := RT 128) ?_ RT_all; (repeat (first | ((with_reducible show upR _ _ _ _ = _); refine up_RT ?_ (by decide +kernel)) | ((with_reducible show zrR _ _ = _); refine zr_RT ?_ (by decide +kernel)) | exact congrArg RT (by decide) | fail))) | rfl | fail); refine And.intro (by (repeat (first | with_reducible assumption | ((with_reducible refine cix_m ?_ ?_) <;> assumption) | ((with_reducible refine cix_b70 (by assumption) ?_ ?_ ?_) <;> decide) | ((with_reducible refine cix_b72 (by assumption) ?_ ?_ ?_) <;> decide) | ((with_reducible refine cix_b74 (by assumption) ?_ ?_ ?_) <;> decide) | ((with_reducible refine cix_b76 (by assumption) ?_ ?_ ?_) <;> decide) | ((with_reducible show CI (zrZ _ _)); refine ci_zr ?_ (by decide +kernel)) | ((with_reducible show CI (upZ _ _ _ _)); refine ci_up ?_ (fun lo hi hb => by first | (cases hb; done) | (cases hb; exact ⟨by decide, by decide⟩))) | fail))) (And.intro (fun o ho => by (repeat (first | ((with_reducible show upZ _ _ _ _ _ = _); refine (upo (by omega)).trans ?_) | ((with_reducible show zrZ _ _ _ = _); refine (zro (by omega)).trans ?_) | fail)); (first | exact hFr o (by omega) | rfl)) (by exact trivial)))
      | rfl
      | omega
      | skip
