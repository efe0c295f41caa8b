/-! ===== the hall and the reference made: first values ===== -/
def s_X11_initG : Sp := (1, 11, 30, fun as σ => match as with
    | [.inr (.inr a0)] => ((a0 = 100)) ∧ σ.1 = a0 ∧ σ.2.2 = RT (bX11 a0) ∧ CIx a0 σ.2.1 ∧ (∀ k, σ.2.1 a0 k = 0)
    | _ => False, fun as σ r σ' => match as with
    | [.inr (.inr a0)] => ∃ Z' : ZT, r = none ∧ σ' = (a0 + 30, Z', R0) ∧ LI Z' ∧ (∀ o, o < a0 → Z' o = σ.2.1 o) ∧ (FV11 Z')
    | _ => False)
set_option maxRecDepth 100000 in
set_option maxHeartbeats 40000000 in
theorem c_X11_initG {l : Launch} {D : va_G} {cA : Nat → ClassId} : PM l D cA yX11_init cX11_init 2 none 2 42 s_X11_initG := by
  refine of_X11_init (c_X11_beginsX) ⟨rfl, rfl⟩ (fun as σ hwf hao hpre => ?_)
  obtain ⟨n, Z, R⟩ := σ
  rcases as with _ | ⟨x | x | a0, _ | ⟨v, t⟩⟩ <;> first | exact (hpre : False).elim | skip
  obtain ⟨h0, hn, hR, hI, hz⟩ := hpre
  refine ⟨Nat.le_of_ble_eq_true rfl, fun G hG => ?_⟩
  clear hao hwf
  rcases h0 with rfl
  · obtain rfl : n = 100 := hn
    obtain rfl : R = RT 98 := hR
    have hFr : ∀ o, o < 101 → Z o = Z o := fun _ _ => rfl
    have hI : CIx 100 Z := hI
    have hz : ∀ k, Z 100 k = 0 := hz
    refine wp_run hG [] 800 _ _ _ _ ?_
    repeat' (first
      | with_reducible rfl
      | (refine And.intro ?_ ?_ <;> (try dsimp only))
      | (intro (r : Option PV) σ' hq
         first
         | (obtain ⟨rfl, rfl⟩ := hq)
         | (obtain ⟨Z', rfl, rfl, hI2, hk2, hP⟩ := hq; (try replace hP : _ ∧ _ := hP); (try dsimp only at hP); have hF := kp_loG (b := 100) hk2 (by rfl) (by decide); (try dsimp only at hF); (try have hFr : ∀ o, o < 100 → Z' o = Z o := fun o ho => (hF o (by omega)).trans (by (repeat (first | ((with_reducible show upZ _ _ _ _ _ = _); refine (upo (by omega)).trans ?_) | ((with_reducible show zrZ _ _ _ = _); refine (zro (by omega)).trans ?_) | fail)); (first | exact hFr o (by omega) | rfl))))
         | (obtain ⟨Z', rfl, rfl, hI2, hk2⟩ := hq)
         | (obtain ⟨Z', rfl, rfl, hI2⟩ := hq))
      | (intro hc; (try simp only [cmp3_c] at hc); simp only [cmpI] at hc; first | (exfalso; revert hc; decide; done) | skip))
    all_goals first
      | with_reducible rfl
      | ((with_reducible show recvG _ _); rfl)
      | trivial
      | decide
      | ((with_reducible show preT _ _ _); show _ = RT _; (repeat (first | ((with_reducible show upR _ _ _ _ = _); refine up_RT ?_ (by decide +kernel)) | ((with_reducible show zrR _ _ = _); refine zr_RT ?_ (by decide +kernel)) | exact congrArg RT (by decide) | fail)))
      | ((with_reducible show _ = RT _); (repeat (first | ((with_reducible show upR _ _ _ _ = _); refine up_RT ?_ (by decide +kernel)) | ((with_reducible show zrR _ _ = _); refine zr_RT ?_ (by decide +kernel)) | exact congrArg RT (by decide) | fail)))
      | ((with_reducible show _ = R0); refine Eq.trans (b := RT 128) ?_ RT_all; (repeat (first | ((with_reducible show upR _ _ _ _ = _); refine up_RT ?_ (by decide +kernel)) | ((with_reducible show zrR _ _ = _); refine zr_RT ?_ (by decide +kernel)) | exact congrArg RT (by decide) | fail)))
      | ((with_reducible show CI _); (repeat (first | with_reducible assumption | ((with_reducible refine cix_m ?_ ?_) <;> assumption) | ((with_reducible refine cix_b70 (by assumption) ?_ ?_ ?_) <;> decide) | ((with_reducible refine cix_b72 (by assumption) ?_ ?_ ?_) <;> decide) | ((with_reducible refine cix_b74 (by assumption) ?_ ?_ ?_) <;> decide) | ((with_reducible refine cix_b76 (by assumption) ?_ ?_ ?_) <;> decide) | ((with_reducible show CI (zrZ _ _)); refine ci_zr ?_ (by decide +kernel)) | ((with_reducible show CI (upZ _ _ _ _)); refine ci_up ?_ (fun lo hi hb => by first | (cases hb; done) | (cases hb; exact ⟨by decide, by decide⟩))) | fail)))
      | ((with_reducible show CIx _ _); first | exact cix_of (by assumption) | assumption | exact cix_zr (by assumption) (by decide +kernel))
      | exact fun k => if_pos rfl
      | (show (0 : Int) ≤ 1872; decide)
      | (show (1872 : Int) ≤ 10000; decide)
      | (show (0 : Int) ≤ 468; decide)
      | (show (468 : Int) ≤ 10000; decide)
      | omega
      | (refine Exists.intro _ (And.intro rfl (And.intro rfl ?_)); refine And.intro (by (have hk3 := kp_mono (S0 := [112, 117, 120, 20100]) (by rfl) hk2; dsimp only at hk3; refine LI_init hk3 hI2 ?_ ?_ ?_ ?_; exact (fun l hl => by rcases l with _ | _ | _ | _ | l <;> first | rfl | omega); exact (fun k => rfl); exact (fun k => rfl); exact hz 30)) (And.intro (fun o ho => by (repeat (first | ((with_reducible show upZ _ _ _ _ _ = _); refine (upo (by omega)).trans ?_) | ((with_reducible show zrZ _ _ _ = _); refine (zro (by omega)).trans ?_) | fail)); (first | exact hFr o (by omega) | rfl)) (by exact ⟨(kpF 100 0 (kp_mono (S0 := [112, 117, 120, 20100]) (by rfl) hk2) (by rfl)).trans rfl, (kpF 100 1 (kp_mono (S0 := [112, 117, 120, 20100]) (by rfl) hk2) (by rfl)).trans rfl, (kpF 100 2 (kp_mono (S0 := [112, 117, 120, 20100]) (by rfl) hk2) (by rfl)).trans (hz 2), (kpF 100 3 (kp_mono (S0 := [112, 117, 120, 20100]) (by rfl) hk2) (by rfl)).trans rfl, (kpF 100 5 (kp_mono (S0 := [112, 117, 120, 20100]) (by rfl) hk2) (by rfl)).trans (hz 5), (kpF 100 7 (kp_mono (S0 := [112, 117, 120, 20100]) (by rfl) hk2) (by rfl)).trans (hz 7), hP.2.2.2.1, (kpF 100 24 (kp_mono (S0 := [112, 117, 120, 20100]) (by rfl) hk2) (by rfl)).trans (hz 24), (kpF 100 25 (kp_mono (S0 := [112, 117, 120, 20100]) (by rfl) hk2) (by rfl)).trans (hz 25), (kpF 100 30 (kp_mono (S0 := [112, 117, 120, 20100]) (by rfl) hk2) (by rfl)).trans (hz 30), fun k => (congrFun (kp_av (o := 101) (kp_mono (S0 := [112, 117, 120, 20100]) (by rfl) hk2) (by rfl) (by decide)) k).trans rfl, fun k => (congrFun (kp_av (o := 113) (kp_mono (S0 := [112, 117, 120, 20100]) (by rfl) hk2) (by rfl) (by decide)) k).trans rfl, fun k => (congrFun (kp_av (o := 114) (kp_mono (S0 := [112, 117, 120, 20100]) (by rfl) hk2) (by rfl) (by decide)) k).trans rfl, fun k => (congrFun (kp_av (o := 115) (kp_mono (S0 := [112, 117, 120, 20100]) (by rfl) hk2) (by rfl) (by decide)) k).trans rfl, fun k => (congrFun (kp_av (o := 116) (kp_mono (S0 := [112, 117, 120, 20100]) (by rfl) hk2) (by rfl) (by decide)) k).trans rfl, fun k => (congrFun (kp_av (o := 118) (kp_mono (S0 := [112, 117, 120, 20100]) (by rfl) hk2) (by rfl) (by decide)) k).trans rfl, fun k hk => (congrFun (kp_av (o := 119) (kp_mono (S0 := [112, 117, 120, 20100]) (by rfl) hk2) (by rfl) (by decide)) k).trans (by rcases k with _ | _ | _ | _ | _ | _ | k <;> first | rfl | omega), hP.1, hP.2.1, hP.2.2.1, fun k hk => (congrFun (kp_av (o := 104) (kp_mono (S0 := [112, 117, 120, 20100]) (by rfl) hk2) (by rfl) (by decide)) k).trans (by rcases k with _ | _ | _ | _ | k <;> first | rfl | omega)⟩)))
