/-! ===== the law: its cases ===== -/
set_option maxRecDepth 100000 in
set_option maxHeartbeats 40000000 in
theorem lc_25 {L : Nat} {xs : Nat → Int} {G : GT} (hG : Clo MCL 130 (some (L, xs)) QL G) {i : Int} (hi : 0 ≤ i ∧ i + 7 ≤ (L : Int)) (hL : L ≤ 3584) {Z : ZT} (hZ : LI Z) (hR : RLX Z) (hE : ∀ Z1, LI Z1 → RLX Z1 → G 1299 [(0, vr 0), (1, vr 1), (2, vr 100), (3, vi i)] [] (130, Z1, R0)) : G 1075 [(0, vr 0), (1, vr 1), (2, vr 100), (3, vi i)] [] (130, Z, R0) := by
  obtain ⟨h_dm, h_wk, h_stG, h_sn, h_sk, h_tx, h_pn, h_sp, h_nr, h_rv, h_rf, h_nf, h_nb, -⟩ := hR
  have o_dm := h_dm
  have o_wk := h_wk
  have o_stG := h_stG
  have o_sn := h_sn
  have o_sk := h_sk
  have o_tx := h_tx
  have o_pn := h_pn
  have o_sp := h_sp
  have o_nr := h_nr
  have o_rv := h_rv
  have o_rf := h_rf
  have o_nf := h_nf
  have o_nb := h_nb
  have hCI := hZ.1
  have hp0 : 0 ≤ Z 18 4 ∧ Z 18 4 ≤ 12 := by (have q := hCI 100 19 0 12 rfl; have q2 := h_sn; unfold RC_sn at q2; omega)
  have htx0 : 0 ≤ Z 6 1 ∧ Z 6 1 ≤ 160 := by (have q := hCI 100 5 0 160 rfl; have q2 := h_tx.1; omega)
  have hE1 := hZ.2.1
  have hed : 0 ≤ Z 18 3 ∧ Z 18 3 ≤ 2 := by (have q := hCI 100 2 0 2 rfl; have q2 := h_sn; unfold RC_sn at q2; omega)
  have hek := ek_of h_sk hZ.2.2.2.1
  refine wp_run hG [1299] 200 _ _ _ _ ?_
  repeat' (first
    | with_reducible rfl
    | ((with_reducible show BYT (bC _)); exact tx_byC h_tx)
    | ((with_reducible show BYT (mB _)); exact tx_byM h_tx)
    | ((with_reducible show PWF _); exact PN_pwf h_pn)
    | ((with_reducible show NBB _); exact o_nb)
    | ((with_reducible show NBF _); exact o_nf)
    | ((with_reducible show NRC _); exact o_nr)
    | ((with_reducible show NBS _); exact nbs_of o_sn o_pn o_nr o_rv o_rf hCI hE1)
    | ((with_reducible show PLH _); exact PLH_o (fun o h1 h2 => kp_cls hkA (by rfl) o (by omega) (by omega)) (PN_plh o_pn hE1 o_rf.1))
    | ((with_reducible show NWM _); exact NWM_o (fun o h1 h2 => kp_cls hkA (by rfl) o (by omega) (by omega)) (PN_nwm o_pn hCI))
    | ((with_reducible show LNO _); exact LNO_o (fun o h1 h2 => kp_cls hkA (by rfl) o (by omega) (by omega)) (congrFun (kp_cls hkA (by rfl) 100 (by decide) (by decide)) 7) (PN_lno o_pn))
    | ((with_reducible show FRM _); exact FRM_o (kp_cls hkA (by rfl) 112 (by decide) (by decide)) (kp_cls hkA (by rfl) 101 (by decide) (by decide)) (frm_of o_sn o_rv))
    | refine And.intro ?_ ?_
    | (intro (r : Option PV) σ' hq
       first
       | (obtain ⟨rfl, rfl⟩ := hq)
       | (obtain ⟨rfl, x, rfl, hp⟩ := hq; (try replace hp : _ ∧ _ := hp); (try dsimp only at hp))
       | (obtain ⟨Z', x, rfl, rfl, hI2, hk2, hp⟩ := hq; (try replace hp : _ ∧ _ := hp); (try dsimp only at hp); (first | have hk3 := kp_of hk2 | have hk3 := hk2); (first | have hZ := LI_av hZ hI2 hk3 (by rfl) | have hZ := LI_eb hZ hI2 hk3 hp.1 (by rfl) | skip); (first | have h_dm := RC_dm_av hk3 (by rfl) h_dm | skip); (first | have h_wk := RC_wk_av hk3 (by rfl) h_wk | skip); (first | have h_stG := RC_stG_av hk3 (by rfl) h_stG | skip); (first | have h_sn := RC_sn_av hk3 (by rfl) h_sn | skip); (first | have h_sk := RC_sk_av hk3 (by rfl) h_sk | skip); (first | have h_tx := RC_tx_av hk3 (by rfl) h_tx | skip); (first | have h_pn := RC_pn_av hk3 (by rfl) h_pn | skip); (first | have h_sp := RC_sp_av hk3 (by rfl) h_sp | skip); (first | have h_nr := RC_nr_av hk3 (by rfl) h_nr | skip); (first | have h_rv := RC_rv_av hk3 (by rfl) h_rv | skip); (first | have h_rf := RC_rf_av hk3 (by rfl) h_rf | skip); (first | have h_nf := RC_nf_av hk3 (by rfl) h_nf | skip); (first | have h_nb := RC_nb_av hk3 (by rfl) h_nb | skip))
       | (obtain ⟨Z', x, rfl, rfl, hI2, hk2⟩ := hq; (first | have hk3 := kp_of hk2 | have hk3 := hk2); (first | have hZ := LI_av hZ hI2 hk3 (by rfl) | have hZ := LI_eb hZ hI2 hk3 hp.1 (by rfl) | skip); (first | have h_dm := RC_dm_av hk3 (by rfl) h_dm | skip); (first | have h_wk := RC_wk_av hk3 (by rfl) h_wk | skip); (first | have h_stG := RC_stG_av hk3 (by rfl) h_stG | skip); (first | have h_sn := RC_sn_av hk3 (by rfl) h_sn | skip); (first | have h_sk := RC_sk_av hk3 (by rfl) h_sk | skip); (first | have h_tx := RC_tx_av hk3 (by rfl) h_tx | skip); (first | have h_pn := RC_pn_av hk3 (by rfl) h_pn | skip); (first | have h_sp := RC_sp_av hk3 (by rfl) h_sp | skip); (first | have h_nr := RC_nr_av hk3 (by rfl) h_nr | skip); (first | have h_rv := RC_rv_av hk3 (by rfl) h_rv | skip); (first | have h_rf := RC_rf_av hk3 (by rfl) h_rf | skip); (first | have h_nf := RC_nf_av hk3 (by rfl) h_nf | skip); (first | have h_nb := RC_nb_av hk3 (by rfl) h_nb | skip))
       | (rcases hq with ⟨Z', rfl, rfl, hI2, hk2⟩ | ⟨Z', rfl, rfl, hI2, hk2⟩ <;> ((first | have hk3 := kp_of hk2 | have hk3 := hk2); (first | have hZ := LI_av hZ hI2 hk3 (by rfl) | have hZ := LI_eb hZ hI2 hk3 hp.1 (by rfl) | skip); (first | have h_dm := RC_dm_av hk3 (by rfl) h_dm | skip); (first | have h_wk := RC_wk_av hk3 (by rfl) h_wk | skip); (first | have h_stG := RC_stG_av hk3 (by rfl) h_stG | skip); (first | have h_sn := RC_sn_av hk3 (by rfl) h_sn | skip); (first | have h_sk := RC_sk_av hk3 (by rfl) h_sk | skip); (first | have h_tx := RC_tx_av hk3 (by rfl) h_tx | skip); (first | have h_pn := RC_pn_av hk3 (by rfl) h_pn | skip); (first | have h_sp := RC_sp_av hk3 (by rfl) h_sp | skip); (first | have h_nr := RC_nr_av hk3 (by rfl) h_nr | skip); (first | have h_rv := RC_rv_av hk3 (by rfl) h_rv | skip); (first | have h_rf := RC_rf_av hk3 (by rfl) h_rf | skip); (first | have h_nf := RC_nf_av hk3 (by rfl) h_nf | skip); (first | have h_nb := RC_nb_av hk3 (by rfl) h_nb | skip)))
       | (obtain ⟨Z', rfl, rfl, hI2, hk2, hp⟩ := hq; (first | have hk3 := kp_of hk2 | have hk3 := hk2); (first | have hZ := LI_av hZ hI2 hk3 (by rfl) | have hZ := LI_eb hZ hI2 hk3 hp.1 (by rfl) | skip); (first | have h_dm := RC_dm_av hk3 (by rfl) h_dm | skip); (first | have h_wk := RC_wk_av hk3 (by rfl) h_wk | skip); (first | have h_stG := RC_stG_av hk3 (by rfl) h_stG | skip); (first | have h_sn := RC_sn_av hk3 (by rfl) h_sn | skip); (first | have h_sk := RC_sk_av hk3 (by rfl) h_sk | skip); (first | have h_tx := RC_tx_av hk3 (by rfl) h_tx | skip); (first | have h_pn := RC_pn_av hk3 (by rfl) h_pn | skip); (first | have h_sp := RC_sp_av hk3 (by rfl) h_sp | skip); (first | have h_nr := RC_nr_av hk3 (by rfl) h_nr | skip); (first | have h_rv := RC_rv_av hk3 (by rfl) h_rv | skip); (first | have h_rf := RC_rf_av hk3 (by rfl) h_rf | skip); (first | have h_nf := RC_nf_av hk3 (by rfl) h_nf | skip); (first | have h_nb := RC_nb_av hk3 (by rfl) h_nb | skip))
       | (obtain ⟨Z', rfl, rfl, hI2, hk2⟩ := hq; (first | have hk3 := kp_of hk2 | have hk3 := hk2); (first | have hZ := LI_av hZ hI2 hk3 (by rfl) | have hZ := LI_eb hZ hI2 hk3 hp.1 (by rfl) | skip); (first | have h_dm := RC_dm_av hk3 (by rfl) h_dm | skip); (first | have h_wk := RC_wk_av hk3 (by rfl) h_wk | skip); (first | have h_stG := RC_stG_av hk3 (by rfl) h_stG | skip); (first | have h_sn := RC_sn_av hk3 (by rfl) h_sn | skip); (first | have h_sk := RC_sk_av hk3 (by rfl) h_sk | skip); (first | have h_tx := RC_tx_av hk3 (by rfl) h_tx | skip); (first | have h_pn := RC_pn_av hk3 (by rfl) h_pn | skip); (first | have h_sp := RC_sp_av hk3 (by rfl) h_sp | skip); (first | have h_nr := RC_nr_av hk3 (by rfl) h_nr | skip); (first | have h_rv := RC_rv_av hk3 (by rfl) h_rv | skip); (first | have h_rf := RC_rf_av hk3 (by rfl) h_rf | skip); (first | have h_nf := RC_nf_av hk3 (by rfl) h_nf | skip); (first | have h_nb := RC_nb_av hk3 (by rfl) h_nb | skip)))
    | (intro hc; (try simp only [cmp3_c] at hc); simp only [cmpI] at hc; (try (exfalso; omega))))
  all_goals first
    | with_reducible rfl
    | ((with_reducible show recvG _ _); rfl)
    | with_reducible exact trivial
    | ((with_reducible show BYT (bC _)); exact tx_byC h_tx)
    | ((with_reducible show BYT (mB _)); exact tx_byM h_tx)
    | ((with_reducible show PWF _); exact PN_pwf h_pn)
    | ((with_reducible show NBB _); exact o_nb)
    | ((with_reducible show NBF _); exact o_nf)
    | ((with_reducible show NRC _); exact o_nr)
    | ((with_reducible show NBS _); exact nbs_of o_sn o_pn o_nr o_rv o_rf hCI hE1)
    | ((with_reducible show PLH _); exact PLH_o (fun o h1 h2 => kp_cls hkA (by rfl) o (by omega) (by omega)) (PN_plh o_pn hE1 o_rf.1))
    | ((with_reducible show NWM _); exact NWM_o (fun o h1 h2 => kp_cls hkA (by rfl) o (by omega) (by omega)) (PN_nwm o_pn hCI))
    | ((with_reducible show LNO _); exact LNO_o (fun o h1 h2 => kp_cls hkA (by rfl) o (by omega) (by omega)) (congrFun (kp_cls hkA (by rfl) 100 (by decide) (by decide)) 7) (PN_lno o_pn))
    | ((with_reducible show FRM _); exact FRM_o (kp_cls hkA (by rfl) 112 (by decide) (by decide)) (kp_cls hkA (by rfl) 101 (by decide) (by decide)) (frm_of o_sn o_rv))
    | ((with_reducible show CI _); exact hZ.1)
    | ((with_reducible show E1 _); exact hZ.2.1)
    | ((with_reducible show EB _); exact hZ.2.2.1)
    | ((with_reducible show KB _); exact hZ.2.2.2.1)
    | ((with_reducible show KE _); exact hZ.2.2.2.2)
    | (refine hG.2 1299 _ [(0, vr 0), (1, vr 1), (2, vr 100), (3, vi i)] _ _ rfl ?_; exact hE _ hZ ⟨(by assumption), (by assumption), (by assumption), (by assumption), (by assumption), (by assumption), (by assumption), (by assumption), (by assumption), (by assumption), (by assumption), (by assumption), (by assumption), trivial⟩)
    | decide
    | (refine (sx hi hL (k := 0) (by decide) ?_).1; simp (disch := omega) only [w32_id]; omega)
    | (with_reducible refine (sx hi hL ?_ rfl).1; decide)
    | (with_reducible refine (sx hi hL ?_ rfl).2; decide)
    | omega
    | (dsimp only; omega)
    | (exfalso; omega)
    | rfl
    | skip

set_option maxRecDepth 100000 in
set_option maxHeartbeats 40000000 in
theorem lc_26 {L : Nat} {xs : Nat → Int} {G : GT} (hG : Clo MCL 130 (some (L, xs)) QL G) {i : Int} (hi : 0 ≤ i ∧ i + 7 ≤ (L : Int)) (hL : L ≤ 3584) {Z : ZT} (hZ : LI Z) (hR : RLX Z) (hE : ∀ Z1, LI Z1 → RLX Z1 → G 1299 [(0, vr 0), (1, vr 1), (2, vr 100), (3, vi i)] [] (130, Z1, R0)) : G 1108 [(0, vr 0), (1, vr 1), (2, vr 100), (3, vi i)] [] (130, Z, R0) := by
  obtain ⟨h_dm, h_wk, h_stG, h_sn, h_sk, h_tx, h_pn, h_sp, h_nr, h_rv, h_rf, h_nf, h_nb, -⟩ := hR
  have o_dm := h_dm
  have o_wk := h_wk
  have o_stG := h_stG
  have o_sn := h_sn
  have o_sk := h_sk
  have o_tx := h_tx
  have o_pn := h_pn
  have o_sp := h_sp
  have o_nr := h_nr
  have o_rv := h_rv
  have o_rf := h_rf
  have o_nf := h_nf
  have o_nb := h_nb
  have hCI := hZ.1
  have hp0 : 0 ≤ Z 18 4 ∧ Z 18 4 ≤ 12 := by (have q := hCI 100 19 0 12 rfl; have q2 := h_sn; unfold RC_sn at q2; omega)
  have htx0 : 0 ≤ Z 6 1 ∧ Z 6 1 ≤ 160 := by (have q := hCI 100 5 0 160 rfl; have q2 := h_tx.1; omega)
  have hE1 := hZ.2.1
  have hed : 0 ≤ Z 18 3 ∧ Z 18 3 ≤ 2 := by (have q := hCI 100 2 0 2 rfl; have q2 := h_sn; unfold RC_sn at q2; omega)
  have hek := ek_of h_sk hZ.2.2.2.1
  refine wp_run hG [1299] 200 _ _ _ _ ?_
  repeat' (first
    | with_reducible rfl
    | ((with_reducible show BYT (bC _)); exact tx_byC h_tx)
    | ((with_reducible show BYT (mB _)); exact tx_byM h_tx)
    | ((with_reducible show PWF _); exact PN_pwf h_pn)
    | ((with_reducible show NBB _); exact o_nb)
    | ((with_reducible show NBF _); exact o_nf)
    | ((with_reducible show NRC _); exact o_nr)
    | ((with_reducible show NBS _); exact nbs_of o_sn o_pn o_nr o_rv o_rf hCI hE1)
    | ((with_reducible show PLH _); exact PLH_o (fun o h1 h2 => kp_cls hkA (by rfl) o (by omega) (by omega)) (PN_plh o_pn hE1 o_rf.1))
    | ((with_reducible show NWM _); exact NWM_o (fun o h1 h2 => kp_cls hkA (by rfl) o (by omega) (by omega)) (PN_nwm o_pn hCI))
    | ((with_reducible show LNO _); exact LNO_o (fun o h1 h2 => kp_cls hkA (by rfl) o (by omega) (by omega)) (congrFun (kp_cls hkA (by rfl) 100 (by decide) (by decide)) 7) (PN_lno o_pn))
    | ((with_reducible show FRM _); exact FRM_o (kp_cls hkA (by rfl) 112 (by decide) (by decide)) (kp_cls hkA (by rfl) 101 (by decide) (by decide)) (frm_of o_sn o_rv))
    | refine And.intro ?_ ?_
    | (intro (r : Option PV) σ' hq
       first
       | (obtain ⟨rfl, rfl⟩ := hq)
       | (obtain ⟨rfl, x, rfl, hp⟩ := hq; (try replace hp : _ ∧ _ := hp); (try dsimp only at hp))
       | (obtain ⟨Z', x, rfl, rfl, hI2, hk2, hp⟩ := hq; (try replace hp : _ ∧ _ := hp); (try dsimp only at hp); (first | have hk3 := kp_of hk2 | have hk3 := hk2); (first | have hZ := LI_av hZ hI2 hk3 (by rfl) | have hZ := LI_eb hZ hI2 hk3 hp.1 (by rfl) | skip); (first | have h_dm := RC_dm_av hk3 (by rfl) h_dm | skip); (first | have h_wk := RC_wk_av hk3 (by rfl) h_wk | skip); (first | have h_stG := RC_stG_av hk3 (by rfl) h_stG | skip); (first | have h_sn := RC_sn_av hk3 (by rfl) h_sn | skip); (first | have h_sk := RC_sk_av hk3 (by rfl) h_sk | skip); (first | have h_tx := RC_tx_av hk3 (by rfl) h_tx | skip); (first | have h_pn := RC_pn_av hk3 (by rfl) h_pn | skip); (first | have h_sp := RC_sp_av hk3 (by rfl) h_sp | skip); (first | have h_nr := RC_nr_av hk3 (by rfl) h_nr | skip); (first | have h_rv := RC_rv_av hk3 (by rfl) h_rv | skip); (first | have h_rf := RC_rf_av hk3 (by rfl) h_rf | skip); (first | have h_nf := RC_nf_av hk3 (by rfl) h_nf | skip); (first | have h_nb := RC_nb_av hk3 (by rfl) h_nb | skip))
       | (obtain ⟨Z', x, rfl, rfl, hI2, hk2⟩ := hq; (first | have hk3 := kp_of hk2 | have hk3 := hk2); (first | have hZ := LI_av hZ hI2 hk3 (by rfl) | have hZ := LI_eb hZ hI2 hk3 hp.1 (by rfl) | skip); (first | have h_dm := RC_dm_av hk3 (by rfl) h_dm | skip); (first | have h_wk := RC_wk_av hk3 (by rfl) h_wk | skip); (first | have h_stG := RC_stG_av hk3 (by rfl) h_stG | skip); (first | have h_sn := RC_sn_av hk3 (by rfl) h_sn | skip); (first | have h_sk := RC_sk_av hk3 (by rfl) h_sk | skip); (first | have h_tx := RC_tx_av hk3 (by rfl) h_tx | skip); (first | have h_pn := RC_pn_av hk3 (by rfl) h_pn | skip); (first | have h_sp := RC_sp_av hk3 (by rfl) h_sp | skip); (first | have h_nr := RC_nr_av hk3 (by rfl) h_nr | skip); (first | have h_rv := RC_rv_av hk3 (by rfl) h_rv | skip); (first | have h_rf := RC_rf_av hk3 (by rfl) h_rf | skip); (first | have h_nf := RC_nf_av hk3 (by rfl) h_nf | skip); (first | have h_nb := RC_nb_av hk3 (by rfl) h_nb | skip))
       | (rcases hq with ⟨Z', rfl, rfl, hI2, hk2⟩ | ⟨Z', rfl, rfl, hI2, hk2⟩ <;> ((first | have hk3 := kp_of hk2 | have hk3 := hk2); (first | have hZ := LI_av hZ hI2 hk3 (by rfl) | have hZ := LI_eb hZ hI2 hk3 hp.1 (by rfl) | skip); (first | have h_dm := RC_dm_av hk3 (by rfl) h_dm | skip); (first | have h_wk := RC_wk_av hk3 (by rfl) h_wk | skip); (first | have h_stG := RC_stG_av hk3 (by rfl) h_stG | skip); (first | have h_sn := RC_sn_av hk3 (by rfl) h_sn | skip); (first | have h_sk := RC_sk_av hk3 (by rfl) h_sk | skip); (first | have h_tx := RC_tx_av hk3 (by rfl) h_tx | skip); (first | have h_pn := RC_pn_av hk3 (by rfl) h_pn | skip); (first | have h_sp := RC_sp_av hk3 (by rfl) h_sp | skip); (first | have h_nr := RC_nr_av hk3 (by rfl) h_nr | skip); (first | have h_rv := RC_rv_av hk3 (by rfl) h_rv | skip); (first | have h_rf := RC_rf_av hk3 (by rfl) h_rf | skip); (first | have h_nf := RC_nf_av hk3 (by rfl) h_nf | skip); (first | have h_nb := RC_nb_av hk3 (by rfl) h_nb | skip)))
       | (obtain ⟨Z', rfl, rfl, hI2, hk2, hp⟩ := hq; (first | have hk3 := kp_of hk2 | have hk3 := hk2); (first | have hZ := LI_av hZ hI2 hk3 (by rfl) | have hZ := LI_eb hZ hI2 hk3 hp.1 (by rfl) | skip); (first | have h_dm := RC_dm_av hk3 (by rfl) h_dm | skip); (first | have h_wk := RC_wk_av hk3 (by rfl) h_wk | skip); (first | have h_stG := RC_stG_av hk3 (by rfl) h_stG | skip); (first | have h_sn := RC_sn_av hk3 (by rfl) h_sn | skip); (first | have h_sk := RC_sk_av hk3 (by rfl) h_sk | skip); (first | have h_tx := RC_tx_av hk3 (by rfl) h_tx | skip); (first | have h_pn := RC_pn_av hk3 (by rfl) h_pn | skip); (first | have h_sp := RC_sp_av hk3 (by rfl) h_sp | skip); (first | have h_nr := RC_nr_av hk3 (by rfl) h_nr | skip); (first | have h_rv := RC_rv_av hk3 (by rfl) h_rv | skip); (first | have h_rf := RC_rf_av hk3 (by rfl) h_rf | skip); (first | have h_nf := RC_nf_av hk3 (by rfl) h_nf | skip); (first | have h_nb := RC_nb_av hk3 (by rfl) h_nb | skip))
       | (obtain ⟨Z', rfl, rfl, hI2, hk2⟩ := hq; (first | have hk3 := kp_of hk2 | have hk3 := hk2); (first | have hZ := LI_av hZ hI2 hk3 (by rfl) | have hZ := LI_eb hZ hI2 hk3 hp.1 (by rfl) | skip); (first | have h_dm := RC_dm_av hk3 (by rfl) h_dm | skip); (first | have h_wk := RC_wk_av hk3 (by rfl) h_wk | skip); (first | have h_stG := RC_stG_av hk3 (by rfl) h_stG | skip); (first | have h_sn := RC_sn_av hk3 (by rfl) h_sn | skip); (first | have h_sk := RC_sk_av hk3 (by rfl) h_sk | skip); (first | have h_tx := RC_tx_av hk3 (by rfl) h_tx | skip); (first | have h_pn := RC_pn_av hk3 (by rfl) h_pn | skip); (first | have h_sp := RC_sp_av hk3 (by rfl) h_sp | skip); (first | have h_nr := RC_nr_av hk3 (by rfl) h_nr | skip); (first | have h_rv := RC_rv_av hk3 (by rfl) h_rv | skip); (first | have h_rf := RC_rf_av hk3 (by rfl) h_rf | skip); (first | have h_nf := RC_nf_av hk3 (by rfl) h_nf | skip); (first | have h_nb := RC_nb_av hk3 (by rfl) h_nb | skip)))
    | (intro hc; (try simp only [cmp3_c] at hc); simp only [cmpI] at hc; (try (exfalso; omega))))
  all_goals first
    | with_reducible rfl
    | ((with_reducible show recvG _ _); rfl)
    | with_reducible exact trivial
    | ((with_reducible show BYT (bC _)); exact tx_byC h_tx)
    | ((with_reducible show BYT (mB _)); exact tx_byM h_tx)
    | ((with_reducible show PWF _); exact PN_pwf h_pn)
    | ((with_reducible show NBB _); exact o_nb)
    | ((with_reducible show NBF _); exact o_nf)
    | ((with_reducible show NRC _); exact o_nr)
    | ((with_reducible show NBS _); exact nbs_of o_sn o_pn o_nr o_rv o_rf hCI hE1)
    | ((with_reducible show PLH _); exact PLH_o (fun o h1 h2 => kp_cls hkA (by rfl) o (by omega) (by omega)) (PN_plh o_pn hE1 o_rf.1))
    | ((with_reducible show NWM _); exact NWM_o (fun o h1 h2 => kp_cls hkA (by rfl) o (by omega) (by omega)) (PN_nwm o_pn hCI))
    | ((with_reducible show LNO _); exact LNO_o (fun o h1 h2 => kp_cls hkA (by rfl) o (by omega) (by omega)) (congrFun (kp_cls hkA (by rfl) 100 (by decide) (by decide)) 7) (PN_lno o_pn))
    | ((with_reducible show FRM _); exact FRM_o (kp_cls hkA (by rfl) 112 (by decide) (by decide)) (kp_cls hkA (by rfl) 101 (by decide) (by decide)) (frm_of o_sn o_rv))
    | ((with_reducible show CI _); exact hZ.1)
    | ((with_reducible show E1 _); exact hZ.2.1)
    | ((with_reducible show EB _); exact hZ.2.2.1)
    | ((with_reducible show KB _); exact hZ.2.2.2.1)
    | ((with_reducible show KE _); exact hZ.2.2.2.2)
    | (refine hG.2 1299 _ [(0, vr 0), (1, vr 1), (2, vr 100), (3, vi i)] _ _ rfl ?_; exact hE _ hZ ⟨(by assumption), (by assumption), (by assumption), (by assumption), (by assumption), (by assumption), (by assumption), (by assumption), (by assumption), (by assumption), (by assumption), (by assumption), (by assumption), trivial⟩)
    | decide
    | (refine (sx hi hL (k := 0) (by decide) ?_).1; simp (disch := omega) only [w32_id]; omega)
    | (with_reducible refine (sx hi hL ?_ rfl).1; decide)
    | (with_reducible refine (sx hi hL ?_ rfl).2; decide)
    | omega
    | (dsimp only; omega)
    | (exfalso; omega)
    | rfl
    | skip

set_option maxRecDepth 100000 in
set_option maxHeartbeats 40000000 in
theorem lc_27 {L : Nat} {xs : Nat → Int} {G : GT} (hG : Clo MCL 130 (some (L, xs)) QL G) {i : Int} (hi : 0 ≤ i ∧ i + 7 ≤ (L : Int)) (hL : L ≤ 3584) {Z : ZT} (hZ : LI Z) (hR : RLX Z) (hE : ∀ Z1, LI Z1 → RLX Z1 → G 1299 [(0, vr 0), (1, vr 1), (2, vr 100), (3, vi i)] [] (130, Z1, R0)) : G 1131 [(0, vr 0), (1, vr 1), (2, vr 100), (3, vi i)] [] (130, Z, R0) := by
  obtain ⟨h_dm, h_wk, h_stG, h_sn, h_sk, h_tx, h_pn, h_sp, h_nr, h_rv, h_rf, h_nf, h_nb, -⟩ := hR
  have o_dm := h_dm
  have o_wk := h_wk
  have o_stG := h_stG
  have o_sn := h_sn
  have o_sk := h_sk
  have o_tx := h_tx
  have o_pn := h_pn
  have o_sp := h_sp
  have o_nr := h_nr
  have o_rv := h_rv
  have o_rf := h_rf
  have o_nf := h_nf
  have o_nb := h_nb
  have hCI := hZ.1
  have hp0 : 0 ≤ Z 18 4 ∧ Z 18 4 ≤ 12 := by (have q := hCI 100 19 0 12 rfl; have q2 := h_sn; unfold RC_sn at q2; omega)
  have htx0 : 0 ≤ Z 6 1 ∧ Z 6 1 ≤ 160 := by (have q := hCI 100 5 0 160 rfl; have q2 := h_tx.1; omega)
  have hE1 := hZ.2.1
  have hed : 0 ≤ Z 18 3 ∧ Z 18 3 ≤ 2 := by (have q := hCI 100 2 0 2 rfl; have q2 := h_sn; unfold RC_sn at q2; omega)
  have hek := ek_of h_sk hZ.2.2.2.1
  refine wp_run hG [1299] 200 _ _ _ _ ?_
  repeat' (first
    | with_reducible rfl
    | ((with_reducible show BYT (bC _)); exact tx_byC h_tx)
    | ((with_reducible show BYT (mB _)); exact tx_byM h_tx)
    | ((with_reducible show PWF _); exact PN_pwf h_pn)
    | ((with_reducible show NBB _); exact o_nb)
    | ((with_reducible show NBF _); exact o_nf)
    | ((with_reducible show NRC _); exact o_nr)
    | ((with_reducible show NBS _); exact nbs_of o_sn o_pn o_nr o_rv o_rf hCI hE1)
    | ((with_reducible show PLH _); exact PLH_o (fun o h1 h2 => kp_cls hkA (by rfl) o (by omega) (by omega)) (PN_plh o_pn hE1 o_rf.1))
    | ((with_reducible show NWM _); exact NWM_o (fun o h1 h2 => kp_cls hkA (by rfl) o (by omega) (by omega)) (PN_nwm o_pn hCI))
    | ((with_reducible show LNO _); exact LNO_o (fun o h1 h2 => kp_cls hkA (by rfl) o (by omega) (by omega)) (congrFun (kp_cls hkA (by rfl) 100 (by decide) (by decide)) 7) (PN_lno o_pn))
    | ((with_reducible show FRM _); exact FRM_o (kp_cls hkA (by rfl) 112 (by decide) (by decide)) (kp_cls hkA (by rfl) 101 (by decide) (by decide)) (frm_of o_sn o_rv))
    | refine And.intro ?_ ?_
    | (intro (r : Option PV) σ' hq
       first
       | (obtain ⟨rfl, rfl⟩ := hq)
       | (obtain ⟨rfl, x, rfl, hp⟩ := hq; (try replace hp : _ ∧ _ := hp); (try dsimp only at hp))
       | (obtain ⟨Z', x, rfl, rfl, hI2, hk2, hp⟩ := hq; (try replace hp : _ ∧ _ := hp); (try dsimp only at hp); (first | have hk3 := kp_of hk2 | have hk3 := hk2); (first | have hZ := LI_av hZ hI2 hk3 (by rfl) | have hZ := LI_eb hZ hI2 hk3 hp.1 (by rfl) | skip); (first | have h_dm := RC_dm_av hk3 (by rfl) h_dm | skip); (first | have h_wk := RC_wk_av hk3 (by rfl) h_wk | skip); (first | have h_stG := RC_stG_av hk3 (by rfl) h_stG | skip); (first | have h_sn := RC_sn_av hk3 (by rfl) h_sn | skip); (first | have h_sk := RC_sk_av hk3 (by rfl) h_sk | skip); (first | have h_tx := RC_tx_av hk3 (by rfl) h_tx | skip); (first | have h_pn := RC_pn_av hk3 (by rfl) h_pn | skip); (first | have h_sp := RC_sp_av hk3 (by rfl) h_sp | skip); (first | have h_nr := RC_nr_av hk3 (by rfl) h_nr | skip); (first | have h_rv := RC_rv_av hk3 (by rfl) h_rv | skip); (first | have h_rf := RC_rf_av hk3 (by rfl) h_rf | skip); (first | have h_nf := RC_nf_av hk3 (by rfl) h_nf | skip); (first | have h_nb := RC_nb_av hk3 (by rfl) h_nb | skip))
       | (obtain ⟨Z', x, rfl, rfl, hI2, hk2⟩ := hq; (first | have hk3 := kp_of hk2 | have hk3 := hk2); (first | have hZ := LI_av hZ hI2 hk3 (by rfl) | have hZ := LI_eb hZ hI2 hk3 hp.1 (by rfl) | skip); (first | have h_dm := RC_dm_av hk3 (by rfl) h_dm | skip); (first | have h_wk := RC_wk_av hk3 (by rfl) h_wk | skip); (first | have h_stG := RC_stG_av hk3 (by rfl) h_stG | skip); (first | have h_sn := RC_sn_av hk3 (by rfl) h_sn | skip); (first | have h_sk := RC_sk_av hk3 (by rfl) h_sk | skip); (first | have h_tx := RC_tx_av hk3 (by rfl) h_tx | skip); (first | have h_pn := RC_pn_av hk3 (by rfl) h_pn | skip); (first | have h_sp := RC_sp_av hk3 (by rfl) h_sp | skip); (first | have h_nr := RC_nr_av hk3 (by rfl) h_nr | skip); (first | have h_rv := RC_rv_av hk3 (by rfl) h_rv | skip); (first | have h_rf := RC_rf_av hk3 (by rfl) h_rf | skip); (first | have h_nf := RC_nf_av hk3 (by rfl) h_nf | skip); (first | have h_nb := RC_nb_av hk3 (by rfl) h_nb | skip))
       | (rcases hq with ⟨Z', rfl, rfl, hI2, hk2⟩ | ⟨Z', rfl, rfl, hI2, hk2⟩ <;> ((first | have hk3 := kp_of hk2 | have hk3 := hk2); (first | have hZ := LI_av hZ hI2 hk3 (by rfl) | have hZ := LI_eb hZ hI2 hk3 hp.1 (by rfl) | skip); (first | have h_dm := RC_dm_av hk3 (by rfl) h_dm | skip); (first | have h_wk := RC_wk_av hk3 (by rfl) h_wk | skip); (first | have h_stG := RC_stG_av hk3 (by rfl) h_stG | skip); (first | have h_sn := RC_sn_av hk3 (by rfl) h_sn | skip); (first | have h_sk := RC_sk_av hk3 (by rfl) h_sk | skip); (first | have h_tx := RC_tx_av hk3 (by rfl) h_tx | skip); (first | have h_pn := RC_pn_av hk3 (by rfl) h_pn | skip); (first | have h_sp := RC_sp_av hk3 (by rfl) h_sp | skip); (first | have h_nr := RC_nr_av hk3 (by rfl) h_nr | skip); (first | have h_rv := RC_rv_av hk3 (by rfl) h_rv | skip); (first | have h_rf := RC_rf_av hk3 (by rfl) h_rf | skip); (first | have h_nf := RC_nf_av hk3 (by rfl) h_nf | skip); (first | have h_nb := RC_nb_av hk3 (by rfl) h_nb | skip)))
       | (obtain ⟨Z', rfl, rfl, hI2, hk2, hp⟩ := hq; (first | have hk3 := kp_of hk2 | have hk3 := hk2); (first | have hZ := LI_av hZ hI2 hk3 (by rfl) | have hZ := LI_eb hZ hI2 hk3 hp.1 (by rfl) | skip); (first | have h_dm := RC_dm_av hk3 (by rfl) h_dm | skip); (first | have h_wk := RC_wk_av hk3 (by rfl) h_wk | skip); (first | have h_stG := RC_stG_av hk3 (by rfl) h_stG | skip); (first | have h_sn := RC_sn_av hk3 (by rfl) h_sn | skip); (first | have h_sk := RC_sk_av hk3 (by rfl) h_sk | skip); (first | have h_tx := RC_tx_av hk3 (by rfl) h_tx | skip); (first | have h_pn := RC_pn_av hk3 (by rfl) h_pn | skip); (first | have h_sp := RC_sp_av hk3 (by rfl) h_sp | skip); (first | have h_nr := RC_nr_av hk3 (by rfl) h_nr | skip); (first | have h_rv := RC_rv_av hk3 (by rfl) h_rv | skip); (first | have h_rf := RC_rf_av hk3 (by rfl) h_rf | skip); (first | have h_nf := RC_nf_av hk3 (by rfl) h_nf | skip); (first | have h_nb := RC_nb_av hk3 (by rfl) h_nb | skip))
       | (obtain ⟨Z', rfl, rfl, hI2, hk2⟩ := hq; (first | have hk3 := kp_of hk2 | have hk3 := hk2); (first | have hZ := LI_av hZ hI2 hk3 (by rfl) | have hZ := LI_eb hZ hI2 hk3 hp.1 (by rfl) | skip); (first | have h_dm := RC_dm_av hk3 (by rfl) h_dm | skip); (first | have h_wk := RC_wk_av hk3 (by rfl) h_wk | skip); (first | have h_stG := RC_stG_av hk3 (by rfl) h_stG | skip); (first | have h_sn := RC_sn_av hk3 (by rfl) h_sn | skip); (first | have h_sk := RC_sk_av hk3 (by rfl) h_sk | skip); (first | have h_tx := RC_tx_av hk3 (by rfl) h_tx | skip); (first | have h_pn := RC_pn_av hk3 (by rfl) h_pn | skip); (first | have h_sp := RC_sp_av hk3 (by rfl) h_sp | skip); (first | have h_nr := RC_nr_av hk3 (by rfl) h_nr | skip); (first | have h_rv := RC_rv_av hk3 (by rfl) h_rv | skip); (first | have h_rf := RC_rf_av hk3 (by rfl) h_rf | skip); (first | have h_nf := RC_nf_av hk3 (by rfl) h_nf | skip); (first | have h_nb := RC_nb_av hk3 (by rfl) h_nb | skip)))
    | (intro hc; (try simp only [cmp3_c] at hc); simp only [cmpI] at hc; (try (exfalso; omega))))
  all_goals first
    | with_reducible rfl
    | ((with_reducible show recvG _ _); rfl)
    | with_reducible exact trivial
    | ((with_reducible show BYT (bC _)); exact tx_byC h_tx)
    | ((with_reducible show BYT (mB _)); exact tx_byM h_tx)
    | ((with_reducible show PWF _); exact PN_pwf h_pn)
    | ((with_reducible show NBB _); exact o_nb)
    | ((with_reducible show NBF _); exact o_nf)
    | ((with_reducible show NRC _); exact o_nr)
    | ((with_reducible show NBS _); exact nbs_of o_sn o_pn o_nr o_rv o_rf hCI hE1)
    | ((with_reducible show PLH _); exact PLH_o (fun o h1 h2 => kp_cls hkA (by rfl) o (by omega) (by omega)) (PN_plh o_pn hE1 o_rf.1))
    | ((with_reducible show NWM _); exact NWM_o (fun o h1 h2 => kp_cls hkA (by rfl) o (by omega) (by omega)) (PN_nwm o_pn hCI))
    | ((with_reducible show LNO _); exact LNO_o (fun o h1 h2 => kp_cls hkA (by rfl) o (by omega) (by omega)) (congrFun (kp_cls hkA (by rfl) 100 (by decide) (by decide)) 7) (PN_lno o_pn))
    | ((with_reducible show FRM _); exact FRM_o (kp_cls hkA (by rfl) 112 (by decide) (by decide)) (kp_cls hkA (by rfl) 101 (by decide) (by decide)) (frm_of o_sn o_rv))
    | ((with_reducible show CI _); exact hZ.1)
    | ((with_reducible show E1 _); exact hZ.2.1)
    | ((with_reducible show EB _); exact hZ.2.2.1)
    | ((with_reducible show KB _); exact hZ.2.2.2.1)
    | ((with_reducible show KE _); exact hZ.2.2.2.2)
    | (refine hG.2 1299 _ [(0, vr 0), (1, vr 1), (2, vr 100), (3, vi i)] _ _ rfl ?_; exact hE _ hZ ⟨(by assumption), (by assumption), (by assumption), (by assumption), (by assumption), (by assumption), (by assumption), (by assumption), (by assumption), (by assumption), (by assumption), (by assumption), (by assumption), trivial⟩)
    | decide
    | (refine (sx hi hL (k := 0) (by decide) ?_).1; simp (disch := omega) only [w32_id]; omega)
    | (with_reducible refine (sx hi hL ?_ rfl).1; decide)
    | (with_reducible refine (sx hi hL ?_ rfl).2; decide)
    | omega
    | (dsimp only; omega)
    | (exfalso; omega)
    | rfl
    | skip

set_option maxRecDepth 100000 in
set_option maxHeartbeats 40000000 in
theorem lc_28 {L : Nat} {xs : Nat → Int} {G : GT} (hG : Clo MCL 130 (some (L, xs)) QL G) {i : Int} (hi : 0 ≤ i ∧ i + 7 ≤ (L : Int)) (hL : L ≤ 3584) {Z : ZT} (hZ : LI Z) (hR : RLX Z) (hE : ∀ Z1, LI Z1 → RLX Z1 → G 1299 [(0, vr 0), (1, vr 1), (2, vr 100), (3, vi i)] [] (130, Z1, R0)) : G 1174 [(0, vr 0), (1, vr 1), (2, vr 100), (3, vi i)] [] (130, Z, R0) := by
  obtain ⟨h_dm, h_wk, h_stG, h_sn, h_sk, h_tx, h_pn, h_sp, h_nr, h_rv, h_rf, h_nf, h_nb, -⟩ := hR
  have o_dm := h_dm
  have o_wk := h_wk
  have o_stG := h_stG
  have o_sn := h_sn
  have o_sk := h_sk
  have o_tx := h_tx
  have o_pn := h_pn
  have o_sp := h_sp
  have o_nr := h_nr
  have o_rv := h_rv
  have o_rf := h_rf
  have o_nf := h_nf
  have o_nb := h_nb
  have hCI := hZ.1
  have hp0 : 0 ≤ Z 18 4 ∧ Z 18 4 ≤ 12 := by (have q := hCI 100 19 0 12 rfl; have q2 := h_sn; unfold RC_sn at q2; omega)
  have htx0 : 0 ≤ Z 6 1 ∧ Z 6 1 ≤ 160 := by (have q := hCI 100 5 0 160 rfl; have q2 := h_tx.1; omega)
  have hE1 := hZ.2.1
  have hed : 0 ≤ Z 18 3 ∧ Z 18 3 ≤ 2 := by (have q := hCI 100 2 0 2 rfl; have q2 := h_sn; unfold RC_sn at q2; omega)
  have hek := ek_of h_sk hZ.2.2.2.1
  refine wp_run hG [1299] 200 _ _ _ _ ?_
  repeat' (first
    | with_reducible rfl
    | ((with_reducible show BYT (bC _)); exact tx_byC h_tx)
    | ((with_reducible show BYT (mB _)); exact tx_byM h_tx)
    | ((with_reducible show PWF _); exact PN_pwf h_pn)
    | ((with_reducible show NBB _); exact o_nb)
    | ((with_reducible show NBF _); exact o_nf)
    | ((with_reducible show NRC _); exact o_nr)
    | ((with_reducible show NBS _); exact nbs_of o_sn o_pn o_nr o_rv o_rf hCI hE1)
    | ((with_reducible show PLH _); exact PLH_o (fun o h1 h2 => kp_cls hkA (by rfl) o (by omega) (by omega)) (PN_plh o_pn hE1 o_rf.1))
    | ((with_reducible show NWM _); exact NWM_o (fun o h1 h2 => kp_cls hkA (by rfl) o (by omega) (by omega)) (PN_nwm o_pn hCI))
    | ((with_reducible show LNO _); exact LNO_o (fun o h1 h2 => kp_cls hkA (by rfl) o (by omega) (by omega)) (congrFun (kp_cls hkA (by rfl) 100 (by decide) (by decide)) 7) (PN_lno o_pn))
    | ((with_reducible show FRM _); exact FRM_o (kp_cls hkA (by rfl) 112 (by decide) (by decide)) (kp_cls hkA (by rfl) 101 (by decide) (by decide)) (frm_of o_sn o_rv))
    | refine And.intro ?_ ?_
    | (intro (r : Option PV) σ' hq
       first
       | (obtain ⟨rfl, rfl⟩ := hq)
       | (obtain ⟨rfl, x, rfl, hp⟩ := hq; (try replace hp : _ ∧ _ := hp); (try dsimp only at hp))
       | (obtain ⟨Z', x, rfl, rfl, hI2, hk2, hp⟩ := hq; (try replace hp : _ ∧ _ := hp); (try dsimp only at hp); (first | have hk3 := kp_of hk2 | have hk3 := hk2); (first | have hZ := LI_av hZ hI2 hk3 (by rfl) | have hZ := LI_eb hZ hI2 hk3 hp.1 (by rfl) | skip); (first | have h_dm := RC_dm_av hk3 (by rfl) h_dm | skip); (first | have h_wk := RC_wk_av hk3 (by rfl) h_wk | skip); (first | have h_stG := RC_stG_av hk3 (by rfl) h_stG | skip); (first | have h_sn := RC_sn_av hk3 (by rfl) h_sn | skip); (first | have h_sk := RC_sk_av hk3 (by rfl) h_sk | skip); (first | have h_tx := RC_tx_av hk3 (by rfl) h_tx | skip); (first | have h_pn := RC_pn_av hk3 (by rfl) h_pn | skip); (first | have h_sp := RC_sp_av hk3 (by rfl) h_sp | skip); (first | have h_nr := RC_nr_av hk3 (by rfl) h_nr | skip); (first | have h_rv := RC_rv_av hk3 (by rfl) h_rv | skip); (first | have h_rf := RC_rf_av hk3 (by rfl) h_rf | skip); (first | have h_nf := RC_nf_av hk3 (by rfl) h_nf | skip); (first | have h_nb := RC_nb_av hk3 (by rfl) h_nb | skip))
       | (obtain ⟨Z', x, rfl, rfl, hI2, hk2⟩ := hq; (first | have hk3 := kp_of hk2 | have hk3 := hk2); (first | have hZ := LI_av hZ hI2 hk3 (by rfl) | have hZ := LI_eb hZ hI2 hk3 hp.1 (by rfl) | skip); (first | have h_dm := RC_dm_av hk3 (by rfl) h_dm | skip); (first | have h_wk := RC_wk_av hk3 (by rfl) h_wk | skip); (first | have h_stG := RC_stG_av hk3 (by rfl) h_stG | skip); (first | have h_sn := RC_sn_av hk3 (by rfl) h_sn | skip); (first | have h_sk := RC_sk_av hk3 (by rfl) h_sk | skip); (first | have h_tx := RC_tx_av hk3 (by rfl) h_tx | skip); (first | have h_pn := RC_pn_av hk3 (by rfl) h_pn | skip); (first | have h_sp := RC_sp_av hk3 (by rfl) h_sp | skip); (first | have h_nr := RC_nr_av hk3 (by rfl) h_nr | skip); (first | have h_rv := RC_rv_av hk3 (by rfl) h_rv | skip); (first | have h_rf := RC_rf_av hk3 (by rfl) h_rf | skip); (first | have h_nf := RC_nf_av hk3 (by rfl) h_nf | skip); (first | have h_nb := RC_nb_av hk3 (by rfl) h_nb | skip))
       | (rcases hq with ⟨Z', rfl, rfl, hI2, hk2⟩ | ⟨Z', rfl, rfl, hI2, hk2⟩ <;> ((first | have hk3 := kp_of hk2 | have hk3 := hk2); (first | have hZ := LI_av hZ hI2 hk3 (by rfl) | have hZ := LI_eb hZ hI2 hk3 hp.1 (by rfl) | skip); (first | have h_dm := RC_dm_av hk3 (by rfl) h_dm | skip); (first | have h_wk := RC_wk_av hk3 (by rfl) h_wk | skip); (first | have h_stG := RC_stG_av hk3 (by rfl) h_stG | skip); (first | have h_sn := RC_sn_av hk3 (by rfl) h_sn | skip); (first | have h_sk := RC_sk_av hk3 (by rfl) h_sk | skip); (first | have h_tx := RC_tx_av hk3 (by rfl) h_tx | skip); (first | have h_pn := RC_pn_av hk3 (by rfl) h_pn | skip); (first | have h_sp := RC_sp_av hk3 (by rfl) h_sp | skip); (first | have h_nr := RC_nr_av hk3 (by rfl) h_nr | skip); (first | have h_rv := RC_rv_av hk3 (by rfl) h_rv | skip); (first | have h_rf := RC_rf_av hk3 (by rfl) h_rf | skip); (first | have h_nf := RC_nf_av hk3 (by rfl) h_nf | skip); (first | have h_nb := RC_nb_av hk3 (by rfl) h_nb | skip)))
       | (obtain ⟨Z', rfl, rfl, hI2, hk2, hp⟩ := hq; (first | have hk3 := kp_of hk2 | have hk3 := hk2); (first | have hZ := LI_av hZ hI2 hk3 (by rfl) | have hZ := LI_eb hZ hI2 hk3 hp.1 (by rfl) | skip); (first | have h_dm := RC_dm_av hk3 (by rfl) h_dm | skip); (first | have h_wk := RC_wk_av hk3 (by rfl) h_wk | skip); (first | have h_stG := RC_stG_av hk3 (by rfl) h_stG | skip); (first | have h_sn := RC_sn_av hk3 (by rfl) h_sn | skip); (first | have h_sk := RC_sk_av hk3 (by rfl) h_sk | skip); (first | have h_tx := RC_tx_av hk3 (by rfl) h_tx | skip); (first | have h_pn := RC_pn_av hk3 (by rfl) h_pn | skip); (first | have h_sp := RC_sp_av hk3 (by rfl) h_sp | skip); (first | have h_nr := RC_nr_av hk3 (by rfl) h_nr | skip); (first | have h_rv := RC_rv_av hk3 (by rfl) h_rv | skip); (first | have h_rf := RC_rf_av hk3 (by rfl) h_rf | skip); (first | have h_nf := RC_nf_av hk3 (by rfl) h_nf | skip); (first | have h_nb := RC_nb_av hk3 (by rfl) h_nb | skip))
       | (obtain ⟨Z', rfl, rfl, hI2, hk2⟩ := hq; (first | have hk3 := kp_of hk2 | have hk3 := hk2); (first | have hZ := LI_av hZ hI2 hk3 (by rfl) | have hZ := LI_eb hZ hI2 hk3 hp.1 (by rfl) | skip); (first | have h_dm := RC_dm_av hk3 (by rfl) h_dm | skip); (first | have h_wk := RC_wk_av hk3 (by rfl) h_wk | skip); (first | have h_stG := RC_stG_av hk3 (by rfl) h_stG | skip); (first | have h_sn := RC_sn_av hk3 (by rfl) h_sn | skip); (first | have h_sk := RC_sk_av hk3 (by rfl) h_sk | skip); (first | have h_tx := RC_tx_av hk3 (by rfl) h_tx | skip); (first | have h_pn := RC_pn_av hk3 (by rfl) h_pn | skip); (first | have h_sp := RC_sp_av hk3 (by rfl) h_sp | skip); (first | have h_nr := RC_nr_av hk3 (by rfl) h_nr | skip); (first | have h_rv := RC_rv_av hk3 (by rfl) h_rv | skip); (first | have h_rf := RC_rf_av hk3 (by rfl) h_rf | skip); (first | have h_nf := RC_nf_av hk3 (by rfl) h_nf | skip); (first | have h_nb := RC_nb_av hk3 (by rfl) h_nb | skip)))
    | (intro hc; (try simp only [cmp3_c] at hc); simp only [cmpI] at hc; (try (exfalso; omega))))
  all_goals first
    | with_reducible rfl
    | ((with_reducible show recvG _ _); rfl)
    | with_reducible exact trivial
    | ((with_reducible show BYT (bC _)); exact tx_byC h_tx)
    | ((with_reducible show BYT (mB _)); exact tx_byM h_tx)
    | ((with_reducible show PWF _); exact PN_pwf h_pn)
    | ((with_reducible show NBB _); exact o_nb)
    | ((with_reducible show NBF _); exact o_nf)
    | ((with_reducible show NRC _); exact o_nr)
    | ((with_reducible show NBS _); exact nbs_of o_sn o_pn o_nr o_rv o_rf hCI hE1)
    | ((with_reducible show PLH _); exact PLH_o (fun o h1 h2 => kp_cls hkA (by rfl) o (by omega) (by omega)) (PN_plh o_pn hE1 o_rf.1))
    | ((with_reducible show NWM _); exact NWM_o (fun o h1 h2 => kp_cls hkA (by rfl) o (by omega) (by omega)) (PN_nwm o_pn hCI))
    | ((with_reducible show LNO _); exact LNO_o (fun o h1 h2 => kp_cls hkA (by rfl) o (by omega) (by omega)) (congrFun (kp_cls hkA (by rfl) 100 (by decide) (by decide)) 7) (PN_lno o_pn))
    | ((with_reducible show FRM _); exact FRM_o (kp_cls hkA (by rfl) 112 (by decide) (by decide)) (kp_cls hkA (by rfl) 101 (by decide) (by decide)) (frm_of o_sn o_rv))
    | ((with_reducible show CI _); exact hZ.1)
    | ((with_reducible show E1 _); exact hZ.2.1)
    | ((with_reducible show EB _); exact hZ.2.2.1)
    | ((with_reducible show KB _); exact hZ.2.2.2.1)
    | ((with_reducible show KE _); exact hZ.2.2.2.2)
    | (refine hG.2 1299 _ [(0, vr 0), (1, vr 1), (2, vr 100), (3, vi i)] _ _ rfl ?_; exact hE _ hZ ⟨(by assumption), (by assumption), (by assumption), (by assumption), (by assumption), (by assumption), (by assumption), (by assumption), (by assumption), (by assumption), (by assumption), (by assumption), (by assumption), trivial⟩)
    | decide
    | (refine (sx hi hL (k := 0) (by decide) ?_).1; simp (disch := omega) only [w32_id]; omega)
    | (with_reducible refine (sx hi hL ?_ rfl).1; decide)
    | (with_reducible refine (sx hi hL ?_ rfl).2; decide)
    | omega
    | (dsimp only; omega)
    | (exfalso; omega)
    | rfl
    | skip

set_option maxRecDepth 100000 in
set_option maxHeartbeats 40000000 in
theorem lc_29 {L : Nat} {xs : Nat → Int} {G : GT} (hG : Clo MCL 130 (some (L, xs)) QL G) {i : Int} (hi : 0 ≤ i ∧ i + 7 ≤ (L : Int)) (hL : L ≤ 3584) {Z : ZT} (hZ : LI Z) (hR : RLX Z) (hE : ∀ Z1, LI Z1 → RLX Z1 → G 1299 [(0, vr 0), (1, vr 1), (2, vr 100), (3, vi i)] [] (130, Z1, R0)) : G 1207 [(0, vr 0), (1, vr 1), (2, vr 100), (3, vi i)] [] (130, Z, R0) := by
  obtain ⟨h_dm, h_wk, h_stG, h_sn, h_sk, h_tx, h_pn, h_sp, h_nr, h_rv, h_rf, h_nf, h_nb, -⟩ := hR
  have o_dm := h_dm
  have o_wk := h_wk
  have o_stG := h_stG
  have o_sn := h_sn
  have o_sk := h_sk
  have o_tx := h_tx
  have o_pn := h_pn
  have o_sp := h_sp
  have o_nr := h_nr
  have o_rv := h_rv
  have o_rf := h_rf
  have o_nf := h_nf
  have o_nb := h_nb
  have hCI := hZ.1
  have hp0 : 0 ≤ Z 18 4 ∧ Z 18 4 ≤ 12 := by (have q := hCI 100 19 0 12 rfl; have q2 := h_sn; unfold RC_sn at q2; omega)
  have htx0 : 0 ≤ Z 6 1 ∧ Z 6 1 ≤ 160 := by (have q := hCI 100 5 0 160 rfl; have q2 := h_tx.1; omega)
  have hE1 := hZ.2.1
  have hed : 0 ≤ Z 18 3 ∧ Z 18 3 ≤ 2 := by (have q := hCI 100 2 0 2 rfl; have q2 := h_sn; unfold RC_sn at q2; omega)
  have hek := ek_of h_sk hZ.2.2.2.1
  refine wp_run hG [1299] 200 _ _ _ _ ?_
  repeat' (first
    | with_reducible rfl
    | ((with_reducible show BYT (bC _)); exact tx_byC h_tx)
    | ((with_reducible show BYT (mB _)); exact tx_byM h_tx)
    | ((with_reducible show PWF _); exact PN_pwf h_pn)
    | ((with_reducible show NBB _); exact o_nb)
    | ((with_reducible show NBF _); exact o_nf)
    | ((with_reducible show NRC _); exact o_nr)
    | ((with_reducible show NBS _); exact nbs_of o_sn o_pn o_nr o_rv o_rf hCI hE1)
    | ((with_reducible show PLH _); exact PLH_o (fun o h1 h2 => kp_cls hkA (by rfl) o (by omega) (by omega)) (PN_plh o_pn hE1 o_rf.1))
    | ((with_reducible show NWM _); exact NWM_o (fun o h1 h2 => kp_cls hkA (by rfl) o (by omega) (by omega)) (PN_nwm o_pn hCI))
    | ((with_reducible show LNO _); exact LNO_o (fun o h1 h2 => kp_cls hkA (by rfl) o (by omega) (by omega)) (congrFun (kp_cls hkA (by rfl) 100 (by decide) (by decide)) 7) (PN_lno o_pn))
    | ((with_reducible show FRM _); exact FRM_o (kp_cls hkA (by rfl) 112 (by decide) (by decide)) (kp_cls hkA (by rfl) 101 (by decide) (by decide)) (frm_of o_sn o_rv))
    | refine And.intro ?_ ?_
    | (intro (r : Option PV) σ' hq
       first
       | (obtain ⟨rfl, rfl⟩ := hq)
       | (obtain ⟨rfl, x, rfl, hp⟩ := hq; (try replace hp : _ ∧ _ := hp); (try dsimp only at hp))
       | (obtain ⟨Z', x, rfl, rfl, hI2, hk2, hp⟩ := hq; (try replace hp : _ ∧ _ := hp); (try dsimp only at hp); (first | have hk3 := kp_of hk2 | have hk3 := hk2); (first | have hZ := LI_av hZ hI2 hk3 (by rfl) | skip); (first | have h_dm := RC_dm_av hk3 (by rfl) h_dm | skip); (first | have h_wk := RC_wk_av hk3 (by rfl) h_wk | skip); (first | have h_stG := RC_stG_av hk3 (by rfl) h_stG | skip); (first | have h_sn := RC_sn_av hk3 (by rfl) h_sn | skip); (first | have h_sk := RC_sk_av hk3 (by rfl) h_sk | skip); (first | have h_tx := RC_tx_av hk3 (by rfl) h_tx | skip); (first | have h_pn := RC_pn_av hk3 (by rfl) h_pn | skip); (first | have h_sp := RC_sp_av hk3 (by rfl) h_sp | skip); (first | have h_nr := RC_nr_av hk3 (by rfl) h_nr | skip); (first | have h_rv := RC_rv_av hk3 (by rfl) h_rv | skip); (first | have h_rf := RC_rf_av hk3 (by rfl) h_rf | skip); (first | have h_nf := RC_nf_av hk3 (by rfl) h_nf | skip); (first | have h_nb := RC_nb_av hk3 (by rfl) h_nb | skip); (first | (have hk0 := hkA; clear hk0; have hkB := hk3; (try have hpB := hp); skip) | (have hkA := hk3; (try have hpA := hp); (have h_nb : RC_nb _ := hpA.1))))
       | (obtain ⟨Z', x, rfl, rfl, hI2, hk2⟩ := hq; (first | have hk3 := kp_of hk2 | have hk3 := hk2); (first | have hZ := LI_av hZ hI2 hk3 (by rfl) | skip); (first | have h_dm := RC_dm_av hk3 (by rfl) h_dm | skip); (first | have h_wk := RC_wk_av hk3 (by rfl) h_wk | skip); (first | have h_stG := RC_stG_av hk3 (by rfl) h_stG | skip); (first | have h_sn := RC_sn_av hk3 (by rfl) h_sn | skip); (first | have h_sk := RC_sk_av hk3 (by rfl) h_sk | skip); (first | have h_tx := RC_tx_av hk3 (by rfl) h_tx | skip); (first | have h_pn := RC_pn_av hk3 (by rfl) h_pn | skip); (first | have h_sp := RC_sp_av hk3 (by rfl) h_sp | skip); (first | have h_nr := RC_nr_av hk3 (by rfl) h_nr | skip); (first | have h_rv := RC_rv_av hk3 (by rfl) h_rv | skip); (first | have h_rf := RC_rf_av hk3 (by rfl) h_rf | skip); (first | have h_nf := RC_nf_av hk3 (by rfl) h_nf | skip); (first | have h_nb := RC_nb_av hk3 (by rfl) h_nb | skip); (first | (have hk0 := hkA; clear hk0; have hkB := hk3; (try have hpB := hp); skip) | (have hkA := hk3; (try have hpA := hp); (have h_nb : RC_nb _ := hpA.1))))
       | (rcases hq with ⟨Z', rfl, rfl, hI2, hk2⟩ | ⟨Z', rfl, rfl, hI2, hk2⟩ <;> ((first | have hk3 := kp_of hk2 | have hk3 := hk2); (first | have hZ := LI_av hZ hI2 hk3 (by rfl) | skip); (first | have h_dm := RC_dm_av hk3 (by rfl) h_dm | skip); (first | have h_wk := RC_wk_av hk3 (by rfl) h_wk | skip); (first | have h_stG := RC_stG_av hk3 (by rfl) h_stG | skip); (first | have h_sn := RC_sn_av hk3 (by rfl) h_sn | skip); (first | have h_sk := RC_sk_av hk3 (by rfl) h_sk | skip); (first | have h_tx := RC_tx_av hk3 (by rfl) h_tx | skip); (first | have h_pn := RC_pn_av hk3 (by rfl) h_pn | skip); (first | have h_sp := RC_sp_av hk3 (by rfl) h_sp | skip); (first | have h_nr := RC_nr_av hk3 (by rfl) h_nr | skip); (first | have h_rv := RC_rv_av hk3 (by rfl) h_rv | skip); (first | have h_rf := RC_rf_av hk3 (by rfl) h_rf | skip); (first | have h_nf := RC_nf_av hk3 (by rfl) h_nf | skip); (first | have h_nb := RC_nb_av hk3 (by rfl) h_nb | skip); (first | (have hk0 := hkA; clear hk0; have hkB := hk3; (try have hpB := hp); skip) | (have hkA := hk3; (try have hpA := hp); (have h_nb : RC_nb _ := hpA.1)))))
       | (obtain ⟨Z', rfl, rfl, hI2, hk2, hp⟩ := hq; (first | have hk3 := kp_of hk2 | have hk3 := hk2); (first | have hZ := LI_av hZ hI2 hk3 (by rfl) | skip); (first | have h_dm := RC_dm_av hk3 (by rfl) h_dm | skip); (first | have h_wk := RC_wk_av hk3 (by rfl) h_wk | skip); (first | have h_stG := RC_stG_av hk3 (by rfl) h_stG | skip); (first | have h_sn := RC_sn_av hk3 (by rfl) h_sn | skip); (first | have h_sk := RC_sk_av hk3 (by rfl) h_sk | skip); (first | have h_tx := RC_tx_av hk3 (by rfl) h_tx | skip); (first | have h_pn := RC_pn_av hk3 (by rfl) h_pn | skip); (first | have h_sp := RC_sp_av hk3 (by rfl) h_sp | skip); (first | have h_nr := RC_nr_av hk3 (by rfl) h_nr | skip); (first | have h_rv := RC_rv_av hk3 (by rfl) h_rv | skip); (first | have h_rf := RC_rf_av hk3 (by rfl) h_rf | skip); (first | have h_nf := RC_nf_av hk3 (by rfl) h_nf | skip); (first | have h_nb := RC_nb_av hk3 (by rfl) h_nb | skip); (first | (have hk0 := hkA; clear hk0; have hkB := hk3; (try have hpB := hp); skip) | (have hkA := hk3; (try have hpA := hp); (have h_nb : RC_nb _ := hpA.1))))
       | (obtain ⟨Z', rfl, rfl, hI2, hk2⟩ := hq; (first | have hk3 := kp_of hk2 | have hk3 := hk2); (first | have hZ := LI_av hZ hI2 hk3 (by rfl) | skip); (first | have h_dm := RC_dm_av hk3 (by rfl) h_dm | skip); (first | have h_wk := RC_wk_av hk3 (by rfl) h_wk | skip); (first | have h_stG := RC_stG_av hk3 (by rfl) h_stG | skip); (first | have h_sn := RC_sn_av hk3 (by rfl) h_sn | skip); (first | have h_sk := RC_sk_av hk3 (by rfl) h_sk | skip); (first | have h_tx := RC_tx_av hk3 (by rfl) h_tx | skip); (first | have h_pn := RC_pn_av hk3 (by rfl) h_pn | skip); (first | have h_sp := RC_sp_av hk3 (by rfl) h_sp | skip); (first | have h_nr := RC_nr_av hk3 (by rfl) h_nr | skip); (first | have h_rv := RC_rv_av hk3 (by rfl) h_rv | skip); (first | have h_rf := RC_rf_av hk3 (by rfl) h_rf | skip); (first | have h_nf := RC_nf_av hk3 (by rfl) h_nf | skip); (first | have h_nb := RC_nb_av hk3 (by rfl) h_nb | skip); (first | (have hk0 := hkA; clear hk0; have hkB := hk3; (try have hpB := hp); skip) | (have hkA := hk3; (try have hpA := hp); (have h_nb : RC_nb _ := hpA.1)))))
    | (intro hc; (try simp only [cmp3_c] at hc); simp only [cmpI] at hc; (try (exfalso; omega))))
  all_goals first
    | with_reducible rfl
    | ((with_reducible show recvG _ _); rfl)
    | with_reducible exact trivial
    | ((with_reducible show BYT (bC _)); exact tx_byC h_tx)
    | ((with_reducible show BYT (mB _)); exact tx_byM h_tx)
    | ((with_reducible show PWF _); exact PN_pwf h_pn)
    | ((with_reducible show NBB _); exact o_nb)
    | ((with_reducible show NBF _); exact o_nf)
    | ((with_reducible show NRC _); exact o_nr)
    | ((with_reducible show NBS _); exact nbs_of o_sn o_pn o_nr o_rv o_rf hCI hE1)
    | ((with_reducible show PLH _); exact PLH_o (fun o h1 h2 => kp_cls hkA (by rfl) o (by omega) (by omega)) (PN_plh o_pn hE1 o_rf.1))
    | ((with_reducible show NWM _); exact NWM_o (fun o h1 h2 => kp_cls hkA (by rfl) o (by omega) (by omega)) (PN_nwm o_pn hCI))
    | ((with_reducible show LNO _); exact LNO_o (fun o h1 h2 => kp_cls hkA (by rfl) o (by omega) (by omega)) (congrFun (kp_cls hkA (by rfl) 100 (by decide) (by decide)) 7) (PN_lno o_pn))
    | ((with_reducible show FRM _); exact FRM_o (kp_cls hkA (by rfl) 112 (by decide) (by decide)) (kp_cls hkA (by rfl) 101 (by decide) (by decide)) (frm_of o_sn o_rv))
    | ((with_reducible show CI _); exact hZ.1)
    | ((with_reducible show E1 _); exact hZ.2.1)
    | ((with_reducible show EB _); exact hZ.2.2.1)
    | ((with_reducible show KB _); exact hZ.2.2.2.1)
    | ((with_reducible show KE _); exact hZ.2.2.2.2)
    | (refine hG.2 1299 _ [(0, vr 0), (1, vr 1), (2, vr 100), (3, vi i)] _ _ rfl ?_; exact hE _ hZ ⟨(by assumption), (by assumption), (by assumption), (by assumption), (by assumption), (by assumption), (by assumption), (by assumption), (by assumption), (by assumption), (by assumption), (by assumption), (by assumption), trivial⟩)
    | decide
    | (refine (sx hi hL (k := 0) (by decide) ?_).1; simp (disch := omega) only [w32_id]; omega)
    | (with_reducible refine (sx hi hL ?_ rfl).1; decide)
    | (with_reducible refine (sx hi hL ?_ rfl).2; decide)
    | omega
    | (dsimp only; omega)
    | (exfalso; omega)
    | rfl
    | skip

set_option maxRecDepth 100000 in
set_option maxHeartbeats 40000000 in
theorem lc_30 {L : Nat} {xs : Nat → Int} {G : GT} (hG : Clo MCL 130 (some (L, xs)) QL G) {i : Int} (hi : 0 ≤ i ∧ i + 7 ≤ (L : Int)) (hL : L ≤ 3584) {Z : ZT} (hZ : LI Z) (hR : RLX Z) (hE : ∀ Z1, LI Z1 → RLX Z1 → G 1299 [(0, vr 0), (1, vr 1), (2, vr 100), (3, vi i)] [] (130, Z1, R0)) : G 1250 [(0, vr 0), (1, vr 1), (2, vr 100), (3, vi i)] [] (130, Z, R0) := by
  obtain ⟨h_dm, h_wk, h_stG, h_sn, h_sk, h_tx, h_pn, h_sp, h_nr, h_rv, h_rf, h_nf, h_nb, -⟩ := hR
  have o_dm := h_dm
  have o_wk := h_wk
  have o_stG := h_stG
  have o_sn := h_sn
  have o_sk := h_sk
  have o_tx := h_tx
  have o_pn := h_pn
  have o_sp := h_sp
  have o_nr := h_nr
  have o_rv := h_rv
  have o_rf := h_rf
  have o_nf := h_nf
  have o_nb := h_nb
  have hCI := hZ.1
  have hp0 : 0 ≤ Z 18 4 ∧ Z 18 4 ≤ 12 := by (have q := hCI 100 19 0 12 rfl; have q2 := h_sn; unfold RC_sn at q2; omega)
  have htx0 : 0 ≤ Z 6 1 ∧ Z 6 1 ≤ 160 := by (have q := hCI 100 5 0 160 rfl; have q2 := h_tx.1; omega)
  have hE1 := hZ.2.1
  have hed : 0 ≤ Z 18 3 ∧ Z 18 3 ≤ 2 := by (have q := hCI 100 2 0 2 rfl; have q2 := h_sn; unfold RC_sn at q2; omega)
  have hek := ek_of h_sk hZ.2.2.2.1
  refine wp_run hG [1299] 200 _ _ _ _ ?_
  repeat' (first
    | with_reducible rfl
    | ((with_reducible show BYT (bC _)); exact tx_byC h_tx)
    | ((with_reducible show BYT (mB _)); exact tx_byM h_tx)
    | ((with_reducible show PWF _); exact PN_pwf h_pn)
    | ((with_reducible show NBB _); exact o_nb)
    | ((with_reducible show NBF _); exact o_nf)
    | ((with_reducible show NRC _); exact o_nr)
    | ((with_reducible show NBS _); exact nbs_of o_sn o_pn o_nr o_rv o_rf hCI hE1)
    | ((with_reducible show PLH _); exact PLH_o (fun o h1 h2 => kp_cls hkA (by rfl) o (by omega) (by omega)) (PN_plh o_pn hE1 o_rf.1))
    | ((with_reducible show NWM _); exact NWM_o (fun o h1 h2 => kp_cls hkA (by rfl) o (by omega) (by omega)) (PN_nwm o_pn hCI))
    | ((with_reducible show LNO _); exact LNO_o (fun o h1 h2 => kp_cls hkA (by rfl) o (by omega) (by omega)) (congrFun (kp_cls hkA (by rfl) 100 (by decide) (by decide)) 7) (PN_lno o_pn))
    | ((with_reducible show FRM _); exact FRM_o (kp_cls hkA (by rfl) 112 (by decide) (by decide)) (kp_cls hkA (by rfl) 101 (by decide) (by decide)) (frm_of o_sn o_rv))
    | refine And.intro ?_ ?_
    | (intro (r : Option PV) σ' hq
       first
       | (obtain ⟨rfl, rfl⟩ := hq)
       | (obtain ⟨rfl, x, rfl, hp⟩ := hq; (try replace hp : _ ∧ _ := hp); (try dsimp only at hp))
       | (obtain ⟨Z', x, rfl, rfl, hI2, hk2, hp⟩ := hq; (try replace hp : _ ∧ _ := hp); (try dsimp only at hp); (first | have hk3 := kp_of hk2 | have hk3 := hk2); (first | have hZ := LI_av hZ hI2 hk3 (by rfl) | have hZ := LI_k hZ hI2 hk3 hp.1 hp.2.1 hp.2.2.1 (by rfl) | skip); (first | have h_dm := RC_dm_av hk3 (by rfl) h_dm | skip); (first | have h_wk := RC_wk_av hk3 (by rfl) h_wk | skip); (first | have h_stG := RC_stG_av hk3 (by rfl) h_stG | skip); (first | have h_sn := RC_sn_av hk3 (by rfl) h_sn | skip); (first | have h_sk := RC_sk_av hk3 (by rfl) h_sk | skip); (first | have h_tx := RC_tx_av hk3 (by rfl) h_tx | skip); (first | have h_pn := RC_pn_av hk3 (by rfl) h_pn | skip); (first | have h_sp := RC_sp_av hk3 (by rfl) h_sp | skip); (first | have h_nr := RC_nr_av hk3 (by rfl) h_nr | skip); (first | have h_rv := RC_rv_av hk3 (by rfl) h_rv | skip); (first | have h_rf := RC_rf_av hk3 (by rfl) h_rf | skip); (first | have h_nf := RC_nf_av hk3 (by rfl) h_nf | skip); (first | have h_nb := RC_nb_av hk3 (by rfl) h_nb | skip); (first | (have hk0 := hkA; clear hk0; have hkB := hk3; (try have hpB := hp); ((obtain ⟨hx, h_stG, h_sn, h_sk⟩ := cu_keep_sk hpA hpB hkA hkB hCI o_stG o_sn o_sk; (try dsimp only at hx)); (obtain ⟨hx, h_stG, h_pn, h_sp⟩ := cu_keep_pn hpA hpB hkA hkB hCI o_stG o_pn o_sp; (try dsimp only at hx)))) | (have hkA := hk3; (try have hpA := hp); ((have h_rv := cu_keep_rv hpA hkA hCI o_rv); (have h_rf := cu_keep_rf hpA hkA hCI o_rf)))))
       | (obtain ⟨Z', x, rfl, rfl, hI2, hk2⟩ := hq; (first | have hk3 := kp_of hk2 | have hk3 := hk2); (first | have hZ := LI_av hZ hI2 hk3 (by rfl) | have hZ := LI_k hZ hI2 hk3 hp.1 hp.2.1 hp.2.2.1 (by rfl) | skip); (first | have h_dm := RC_dm_av hk3 (by rfl) h_dm | skip); (first | have h_wk := RC_wk_av hk3 (by rfl) h_wk | skip); (first | have h_stG := RC_stG_av hk3 (by rfl) h_stG | skip); (first | have h_sn := RC_sn_av hk3 (by rfl) h_sn | skip); (first | have h_sk := RC_sk_av hk3 (by rfl) h_sk | skip); (first | have h_tx := RC_tx_av hk3 (by rfl) h_tx | skip); (first | have h_pn := RC_pn_av hk3 (by rfl) h_pn | skip); (first | have h_sp := RC_sp_av hk3 (by rfl) h_sp | skip); (first | have h_nr := RC_nr_av hk3 (by rfl) h_nr | skip); (first | have h_rv := RC_rv_av hk3 (by rfl) h_rv | skip); (first | have h_rf := RC_rf_av hk3 (by rfl) h_rf | skip); (first | have h_nf := RC_nf_av hk3 (by rfl) h_nf | skip); (first | have h_nb := RC_nb_av hk3 (by rfl) h_nb | skip); (first | (have hk0 := hkA; clear hk0; have hkB := hk3; (try have hpB := hp); ((obtain ⟨hx, h_stG, h_sn, h_sk⟩ := cu_keep_sk hpA hpB hkA hkB hCI o_stG o_sn o_sk; (try dsimp only at hx)); (obtain ⟨hx, h_stG, h_pn, h_sp⟩ := cu_keep_pn hpA hpB hkA hkB hCI o_stG o_pn o_sp; (try dsimp only at hx)))) | (have hkA := hk3; (try have hpA := hp); ((have h_rv := cu_keep_rv hpA hkA hCI o_rv); (have h_rf := cu_keep_rf hpA hkA hCI o_rf)))))
       | (rcases hq with ⟨Z', rfl, rfl, hI2, hk2⟩ | ⟨Z', rfl, rfl, hI2, hk2⟩ <;> ((first | have hk3 := kp_of hk2 | have hk3 := hk2); (first | have hZ := LI_av hZ hI2 hk3 (by rfl) | have hZ := LI_k hZ hI2 hk3 hp.1 hp.2.1 hp.2.2.1 (by rfl) | skip); (first | have h_dm := RC_dm_av hk3 (by rfl) h_dm | skip); (first | have h_wk := RC_wk_av hk3 (by rfl) h_wk | skip); (first | have h_stG := RC_stG_av hk3 (by rfl) h_stG | skip); (first | have h_sn := RC_sn_av hk3 (by rfl) h_sn | skip); (first | have h_sk := RC_sk_av hk3 (by rfl) h_sk | skip); (first | have h_tx := RC_tx_av hk3 (by rfl) h_tx | skip); (first | have h_pn := RC_pn_av hk3 (by rfl) h_pn | skip); (first | have h_sp := RC_sp_av hk3 (by rfl) h_sp | skip); (first | have h_nr := RC_nr_av hk3 (by rfl) h_nr | skip); (first | have h_rv := RC_rv_av hk3 (by rfl) h_rv | skip); (first | have h_rf := RC_rf_av hk3 (by rfl) h_rf | skip); (first | have h_nf := RC_nf_av hk3 (by rfl) h_nf | skip); (first | have h_nb := RC_nb_av hk3 (by rfl) h_nb | skip); (first | (have hk0 := hkA; clear hk0; have hkB := hk3; (try have hpB := hp); ((obtain ⟨hx, h_stG, h_sn, h_sk⟩ := cu_keep_sk hpA hpB hkA hkB hCI o_stG o_sn o_sk; (try dsimp only at hx)); (obtain ⟨hx, h_stG, h_pn, h_sp⟩ := cu_keep_pn hpA hpB hkA hkB hCI o_stG o_pn o_sp; (try dsimp only at hx)))) | (have hkA := hk3; (try have hpA := hp); ((have h_rv := cu_keep_rv hpA hkA hCI o_rv); (have h_rf := cu_keep_rf hpA hkA hCI o_rf))))))
       | (obtain ⟨Z', rfl, rfl, hI2, hk2, hp⟩ := hq; (first | have hk3 := kp_of hk2 | have hk3 := hk2); (first | have hZ := LI_av hZ hI2 hk3 (by rfl) | have hZ := LI_k hZ hI2 hk3 hp.1 hp.2.1 hp.2.2.1 (by rfl) | skip); (first | have h_dm := RC_dm_av hk3 (by rfl) h_dm | skip); (first | have h_wk := RC_wk_av hk3 (by rfl) h_wk | skip); (first | have h_stG := RC_stG_av hk3 (by rfl) h_stG | skip); (first | have h_sn := RC_sn_av hk3 (by rfl) h_sn | skip); (first | have h_sk := RC_sk_av hk3 (by rfl) h_sk | skip); (first | have h_tx := RC_tx_av hk3 (by rfl) h_tx | skip); (first | have h_pn := RC_pn_av hk3 (by rfl) h_pn | skip); (first | have h_sp := RC_sp_av hk3 (by rfl) h_sp | skip); (first | have h_nr := RC_nr_av hk3 (by rfl) h_nr | skip); (first | have h_rv := RC_rv_av hk3 (by rfl) h_rv | skip); (first | have h_rf := RC_rf_av hk3 (by rfl) h_rf | skip); (first | have h_nf := RC_nf_av hk3 (by rfl) h_nf | skip); (first | have h_nb := RC_nb_av hk3 (by rfl) h_nb | skip); (first | (have hk0 := hkA; clear hk0; have hkB := hk3; (try have hpB := hp); ((obtain ⟨hx, h_stG, h_sn, h_sk⟩ := cu_keep_sk hpA hpB hkA hkB hCI o_stG o_sn o_sk; (try dsimp only at hx)); (obtain ⟨hx, h_stG, h_pn, h_sp⟩ := cu_keep_pn hpA hpB hkA hkB hCI o_stG o_pn o_sp; (try dsimp only at hx)))) | (have hkA := hk3; (try have hpA := hp); ((have h_rv := cu_keep_rv hpA hkA hCI o_rv); (have h_rf := cu_keep_rf hpA hkA hCI o_rf)))))
       | (obtain ⟨Z', rfl, rfl, hI2, hk2⟩ := hq; (first | have hk3 := kp_of hk2 | have hk3 := hk2); (first | have hZ := LI_av hZ hI2 hk3 (by rfl) | have hZ := LI_k hZ hI2 hk3 hp.1 hp.2.1 hp.2.2.1 (by rfl) | skip); (first | have h_dm := RC_dm_av hk3 (by rfl) h_dm | skip); (first | have h_wk := RC_wk_av hk3 (by rfl) h_wk | skip); (first | have h_stG := RC_stG_av hk3 (by rfl) h_stG | skip); (first | have h_sn := RC_sn_av hk3 (by rfl) h_sn | skip); (first | have h_sk := RC_sk_av hk3 (by rfl) h_sk | skip); (first | have h_tx := RC_tx_av hk3 (by rfl) h_tx | skip); (first | have h_pn := RC_pn_av hk3 (by rfl) h_pn | skip); (first | have h_sp := RC_sp_av hk3 (by rfl) h_sp | skip); (first | have h_nr := RC_nr_av hk3 (by rfl) h_nr | skip); (first | have h_rv := RC_rv_av hk3 (by rfl) h_rv | skip); (first | have h_rf := RC_rf_av hk3 (by rfl) h_rf | skip); (first | have h_nf := RC_nf_av hk3 (by rfl) h_nf | skip); (first | have h_nb := RC_nb_av hk3 (by rfl) h_nb | skip); (first | (have hk0 := hkA; clear hk0; have hkB := hk3; (try have hpB := hp); ((obtain ⟨hx, h_stG, h_sn, h_sk⟩ := cu_keep_sk hpA hpB hkA hkB hCI o_stG o_sn o_sk; (try dsimp only at hx)); (obtain ⟨hx, h_stG, h_pn, h_sp⟩ := cu_keep_pn hpA hpB hkA hkB hCI o_stG o_pn o_sp; (try dsimp only at hx)))) | (have hkA := hk3; (try have hpA := hp); ((have h_rv := cu_keep_rv hpA hkA hCI o_rv); (have h_rf := cu_keep_rf hpA hkA hCI o_rf))))))
    | (intro hc; (try simp only [cmp3_c] at hc); simp only [cmpI] at hc; (try (exfalso; omega))))
  all_goals first
    | with_reducible rfl
    | ((with_reducible show recvG _ _); rfl)
    | with_reducible exact trivial
    | ((with_reducible show BYT (bC _)); exact tx_byC h_tx)
    | ((with_reducible show BYT (mB _)); exact tx_byM h_tx)
    | ((with_reducible show PWF _); exact PN_pwf h_pn)
    | ((with_reducible show NBB _); exact o_nb)
    | ((with_reducible show NBF _); exact o_nf)
    | ((with_reducible show NRC _); exact o_nr)
    | ((with_reducible show NBS _); exact nbs_of o_sn o_pn o_nr o_rv o_rf hCI hE1)
    | ((with_reducible show PLH _); exact PLH_o (fun o h1 h2 => kp_cls hkA (by rfl) o (by omega) (by omega)) (PN_plh o_pn hE1 o_rf.1))
    | ((with_reducible show NWM _); exact NWM_o (fun o h1 h2 => kp_cls hkA (by rfl) o (by omega) (by omega)) (PN_nwm o_pn hCI))
    | ((with_reducible show LNO _); exact LNO_o (fun o h1 h2 => kp_cls hkA (by rfl) o (by omega) (by omega)) (congrFun (kp_cls hkA (by rfl) 100 (by decide) (by decide)) 7) (PN_lno o_pn))
    | ((with_reducible show FRM _); exact FRM_o (kp_cls hkA (by rfl) 112 (by decide) (by decide)) (kp_cls hkA (by rfl) 101 (by decide) (by decide)) (frm_of o_sn o_rv))
    | ((with_reducible show CI _); exact hZ.1)
    | ((with_reducible show E1 _); exact hZ.2.1)
    | ((with_reducible show EB _); exact hZ.2.2.1)
    | ((with_reducible show KB _); exact hZ.2.2.2.1)
    | ((with_reducible show KE _); exact hZ.2.2.2.2)
    | (refine hG.2 1299 _ [(0, vr 0), (1, vr 1), (2, vr 100), (3, vi i)] _ _ rfl ?_; exact hE _ hZ ⟨(by assumption), (by assumption), (by assumption), (by assumption), (by assumption), (by assumption), (by assumption), (by assumption), (by assumption), (by assumption), (by assumption), (by assumption), (by assumption), trivial⟩)
    | decide
    | (refine (sx hi hL (k := 0) (by decide) ?_).1; simp (disch := omega) only [w32_id]; omega)
    | (with_reducible refine (sx hi hL ?_ rfl).1; decide)
    | (with_reducible refine (sx hi hL ?_ rfl).2; decide)
    | omega
    | (dsimp only; omega)
    | (exfalso; omega)
    | rfl
    | skip

set_option maxRecDepth 100000 in
set_option maxHeartbeats 40000000 in
theorem lc_31 {L : Nat} {xs : Nat → Int} {G : GT} (hG : Clo MCL 130 (some (L, xs)) QL G) {i : Int} (hi : 0 ≤ i ∧ i + 7 ≤ (L : Int)) (hL : L ≤ 3584) {Z : ZT} (hZ : LI Z) (hR : RLX Z) (hE : ∀ Z1, LI Z1 → RLX Z1 → G 1299 [(0, vr 0), (1, vr 1), (2, vr 100), (3, vi i)] [] (130, Z1, R0)) : G 1263 [(0, vr 0), (1, vr 1), (2, vr 100), (3, vi i)] [] (130, Z, R0) := by
  obtain ⟨h_dm, h_wk, h_stG, h_sn, h_sk, h_tx, h_pn, h_sp, h_nr, h_rv, h_rf, h_nf, h_nb, -⟩ := hR
  have o_dm := h_dm
  have o_wk := h_wk
  have o_stG := h_stG
  have o_sn := h_sn
  have o_sk := h_sk
  have o_tx := h_tx
  have o_pn := h_pn
  have o_sp := h_sp
  have o_nr := h_nr
  have o_rv := h_rv
  have o_rf := h_rf
  have o_nf := h_nf
  have o_nb := h_nb
  have hCI := hZ.1
  have hp0 : 0 ≤ Z 18 4 ∧ Z 18 4 ≤ 12 := by (have q := hCI 100 19 0 12 rfl; have q2 := h_sn; unfold RC_sn at q2; omega)
  have htx0 : 0 ≤ Z 6 1 ∧ Z 6 1 ≤ 160 := by (have q := hCI 100 5 0 160 rfl; have q2 := h_tx.1; omega)
  have hE1 := hZ.2.1
  have hed : 0 ≤ Z 18 3 ∧ Z 18 3 ≤ 2 := by (have q := hCI 100 2 0 2 rfl; have q2 := h_sn; unfold RC_sn at q2; omega)
  have hek := ek_of h_sk hZ.2.2.2.1
  refine wp_run hG [1299] 200 _ _ _ _ ?_
  repeat' (first
    | with_reducible rfl
    | ((with_reducible show BYT (bC _)); exact tx_byC h_tx)
    | ((with_reducible show BYT (mB _)); exact tx_byM h_tx)
    | ((with_reducible show PWF _); exact PN_pwf h_pn)
    | ((with_reducible show NBB _); exact o_nb)
    | ((with_reducible show NBF _); exact o_nf)
    | ((with_reducible show NRC _); exact o_nr)
    | ((with_reducible show NBS _); exact nbs_of o_sn o_pn o_nr o_rv o_rf hCI hE1)
    | ((with_reducible show PLH _); exact PLH_o (fun o h1 h2 => kp_cls hkA (by rfl) o (by omega) (by omega)) (PN_plh o_pn hE1 o_rf.1))
    | ((with_reducible show NWM _); exact NWM_o (fun o h1 h2 => kp_cls hkA (by rfl) o (by omega) (by omega)) (PN_nwm o_pn hCI))
    | ((with_reducible show LNO _); exact LNO_o (fun o h1 h2 => kp_cls hkA (by rfl) o (by omega) (by omega)) (congrFun (kp_cls hkA (by rfl) 100 (by decide) (by decide)) 7) (PN_lno o_pn))
    | ((with_reducible show FRM _); exact FRM_o (kp_cls hkA (by rfl) 112 (by decide) (by decide)) (kp_cls hkA (by rfl) 101 (by decide) (by decide)) (frm_of o_sn o_rv))
    | refine And.intro ?_ ?_
    | (intro (r : Option PV) σ' hq
       first
       | (obtain ⟨rfl, rfl⟩ := hq)
       | (obtain ⟨rfl, x, rfl, hp⟩ := hq; (try replace hp : _ ∧ _ := hp); (try dsimp only at hp))
       | (obtain ⟨Z', x, rfl, rfl, hI2, hk2, hp⟩ := hq; (try replace hp : _ ∧ _ := hp); (try dsimp only at hp); (first | have hk3 := kp_of hk2 | have hk3 := hk2); (first | have hZ := LI_av hZ hI2 hk3 (by rfl) | have hZ := LI_k hZ hI2 hk3 hp.1 hp.2.1 hp.2.2.1 (by rfl) | skip); (first | have h_dm := RC_dm_av hk3 (by rfl) h_dm | skip); (first | have h_wk := RC_wk_av hk3 (by rfl) h_wk | skip); (first | have h_stG := RC_stG_av hk3 (by rfl) h_stG | skip); (first | have h_sn := RC_sn_av hk3 (by rfl) h_sn | skip); (first | have h_sk := RC_sk_av hk3 (by rfl) h_sk | skip); (first | have h_tx := RC_tx_av hk3 (by rfl) h_tx | skip); (first | have h_pn := RC_pn_av hk3 (by rfl) h_pn | skip); (first | have h_sp := RC_sp_av hk3 (by rfl) h_sp | skip); (first | have h_nr := RC_nr_av hk3 (by rfl) h_nr | skip); (first | have h_rv := RC_rv_av hk3 (by rfl) h_rv | skip); (first | have h_rf := RC_rf_av hk3 (by rfl) h_rf | skip); (first | have h_nf := RC_nf_av hk3 (by rfl) h_nf | skip); (first | have h_nb := RC_nb_av hk3 (by rfl) h_nb | skip); (first | (have hk0 := hkA; clear hk0; have hkB := hk3; (try have hpB := hp); (((have hpA := And.intro hpA.1 (And.intro hpA.2.1 (And.intro hpA.2.2.1 (And.intro hpA.2.2.2.1 (And.intro hpA.2.2.2.2.1 (And.intro hpA.2.2.2.2.2.1 (And.intro hpA.2.2.2.2.2.2.1 (trivial)))))))); (have hkA : kp ([1, 2, 3, 18, 19, 20, 21, 22, 23, 24, 25, 26, 27, 28, 29, 30, 31, 32, 33, 34, 70, 72, 74, 76, 78, 88, 91, 93]) Z _ := kp_mono (by rfl) hkA)); ((obtain ⟨hx, h_stG, h_sn, h_sk⟩ := cu_back_sk hpA hpB hkA hkB hCI o_stG o_sn o_sk; (try dsimp only at hx)); (obtain ⟨hx, h_stG, h_pn, h_sp⟩ := cu_back_pn hpA hpB hkA hkB hCI o_stG o_pn o_sp; (try dsimp only at hx))))) | (have hkA := hk3; (try have hpA := hp); ((have h_nb : RC_nb _ := hpA.2.2.2.2.2.2.2.1; have h_nr : RC_nr _ := hpA.2.2.2.2.2.2.2.2.1); (have h_rv := cu_back_rv hpA hkA hCI o_rv); (have h_rf := cu_back_rf hpA hkA hCI o_rf); (have h_dm := cu_cls_dm hpA.1 hpA.2.1 hpA.2.2.1 (kpF 100 0 hkA (by rfl)) (kpF 100 1 hkA (by rfl)) h_dm)))))
       | (obtain ⟨Z', x, rfl, rfl, hI2, hk2⟩ := hq; (first | have hk3 := kp_of hk2 | have hk3 := hk2); (first | have hZ := LI_av hZ hI2 hk3 (by rfl) | have hZ := LI_k hZ hI2 hk3 hp.1 hp.2.1 hp.2.2.1 (by rfl) | skip); (first | have h_dm := RC_dm_av hk3 (by rfl) h_dm | skip); (first | have h_wk := RC_wk_av hk3 (by rfl) h_wk | skip); (first | have h_stG := RC_stG_av hk3 (by rfl) h_stG | skip); (first | have h_sn := RC_sn_av hk3 (by rfl) h_sn | skip); (first | have h_sk := RC_sk_av hk3 (by rfl) h_sk | skip); (first | have h_tx := RC_tx_av hk3 (by rfl) h_tx | skip); (first | have h_pn := RC_pn_av hk3 (by rfl) h_pn | skip); (first | have h_sp := RC_sp_av hk3 (by rfl) h_sp | skip); (first | have h_nr := RC_nr_av hk3 (by rfl) h_nr | skip); (first | have h_rv := RC_rv_av hk3 (by rfl) h_rv | skip); (first | have h_rf := RC_rf_av hk3 (by rfl) h_rf | skip); (first | have h_nf := RC_nf_av hk3 (by rfl) h_nf | skip); (first | have h_nb := RC_nb_av hk3 (by rfl) h_nb | skip); (first | (have hk0 := hkA; clear hk0; have hkB := hk3; (try have hpB := hp); (((have hpA := And.intro hpA.1 (And.intro hpA.2.1 (And.intro hpA.2.2.1 (And.intro hpA.2.2.2.1 (And.intro hpA.2.2.2.2.1 (And.intro hpA.2.2.2.2.2.1 (And.intro hpA.2.2.2.2.2.2.1 (trivial)))))))); (have hkA : kp ([1, 2, 3, 18, 19, 20, 21, 22, 23, 24, 25, 26, 27, 28, 29, 30, 31, 32, 33, 34, 70, 72, 74, 76, 78, 88, 91, 93]) Z _ := kp_mono (by rfl) hkA)); ((obtain ⟨hx, h_stG, h_sn, h_sk⟩ := cu_back_sk hpA hpB hkA hkB hCI o_stG o_sn o_sk; (try dsimp only at hx)); (obtain ⟨hx, h_stG, h_pn, h_sp⟩ := cu_back_pn hpA hpB hkA hkB hCI o_stG o_pn o_sp; (try dsimp only at hx))))) | (have hkA := hk3; (try have hpA := hp); ((have h_nb : RC_nb _ := hpA.2.2.2.2.2.2.2.1; have h_nr : RC_nr _ := hpA.2.2.2.2.2.2.2.2.1); (have h_rv := cu_back_rv hpA hkA hCI o_rv); (have h_rf := cu_back_rf hpA hkA hCI o_rf); (have h_dm := cu_cls_dm hpA.1 hpA.2.1 hpA.2.2.1 (kpF 100 0 hkA (by rfl)) (kpF 100 1 hkA (by rfl)) h_dm)))))
       | (rcases hq with ⟨Z', rfl, rfl, hI2, hk2⟩ | ⟨Z', rfl, rfl, hI2, hk2⟩ <;> ((first | have hk3 := kp_of hk2 | have hk3 := hk2); (first | have hZ := LI_av hZ hI2 hk3 (by rfl) | have hZ := LI_k hZ hI2 hk3 hp.1 hp.2.1 hp.2.2.1 (by rfl) | skip); (first | have h_dm := RC_dm_av hk3 (by rfl) h_dm | skip); (first | have h_wk := RC_wk_av hk3 (by rfl) h_wk | skip); (first | have h_stG := RC_stG_av hk3 (by rfl) h_stG | skip); (first | have h_sn := RC_sn_av hk3 (by rfl) h_sn | skip); (first | have h_sk := RC_sk_av hk3 (by rfl) h_sk | skip); (first | have h_tx := RC_tx_av hk3 (by rfl) h_tx | skip); (first | have h_pn := RC_pn_av hk3 (by rfl) h_pn | skip); (first | have h_sp := RC_sp_av hk3 (by rfl) h_sp | skip); (first | have h_nr := RC_nr_av hk3 (by rfl) h_nr | skip); (first | have h_rv := RC_rv_av hk3 (by rfl) h_rv | skip); (first | have h_rf := RC_rf_av hk3 (by rfl) h_rf | skip); (first | have h_nf := RC_nf_av hk3 (by rfl) h_nf | skip); (first | have h_nb := RC_nb_av hk3 (by rfl) h_nb | skip); (first | (have hk0 := hkA; clear hk0; have hkB := hk3; (try have hpB := hp); (((have hpA := And.intro hpA.1 (And.intro hpA.2.1 (And.intro hpA.2.2.1 (And.intro hpA.2.2.2.1 (And.intro hpA.2.2.2.2.1 (And.intro hpA.2.2.2.2.2.1 (And.intro hpA.2.2.2.2.2.2.1 (trivial)))))))); (have hkA : kp ([1, 2, 3, 18, 19, 20, 21, 22, 23, 24, 25, 26, 27, 28, 29, 30, 31, 32, 33, 34, 70, 72, 74, 76, 78, 88, 91, 93]) Z _ := kp_mono (by rfl) hkA)); ((obtain ⟨hx, h_stG, h_sn, h_sk⟩ := cu_back_sk hpA hpB hkA hkB hCI o_stG o_sn o_sk; (try dsimp only at hx)); (obtain ⟨hx, h_stG, h_pn, h_sp⟩ := cu_back_pn hpA hpB hkA hkB hCI o_stG o_pn o_sp; (try dsimp only at hx))))) | (have hkA := hk3; (try have hpA := hp); ((have h_nb : RC_nb _ := hpA.2.2.2.2.2.2.2.1; have h_nr : RC_nr _ := hpA.2.2.2.2.2.2.2.2.1); (have h_rv := cu_back_rv hpA hkA hCI o_rv); (have h_rf := cu_back_rf hpA hkA hCI o_rf); (have h_dm := cu_cls_dm hpA.1 hpA.2.1 hpA.2.2.1 (kpF 100 0 hkA (by rfl)) (kpF 100 1 hkA (by rfl)) h_dm))))))
       | (obtain ⟨Z', rfl, rfl, hI2, hk2, hp⟩ := hq; (first | have hk3 := kp_of hk2 | have hk3 := hk2); (first | have hZ := LI_av hZ hI2 hk3 (by rfl) | have hZ := LI_k hZ hI2 hk3 hp.1 hp.2.1 hp.2.2.1 (by rfl) | skip); (first | have h_dm := RC_dm_av hk3 (by rfl) h_dm | skip); (first | have h_wk := RC_wk_av hk3 (by rfl) h_wk | skip); (first | have h_stG := RC_stG_av hk3 (by rfl) h_stG | skip); (first | have h_sn := RC_sn_av hk3 (by rfl) h_sn | skip); (first | have h_sk := RC_sk_av hk3 (by rfl) h_sk | skip); (first | have h_tx := RC_tx_av hk3 (by rfl) h_tx | skip); (first | have h_pn := RC_pn_av hk3 (by rfl) h_pn | skip); (first | have h_sp := RC_sp_av hk3 (by rfl) h_sp | skip); (first | have h_nr := RC_nr_av hk3 (by rfl) h_nr | skip); (first | have h_rv := RC_rv_av hk3 (by rfl) h_rv | skip); (first | have h_rf := RC_rf_av hk3 (by rfl) h_rf | skip); (first | have h_nf := RC_nf_av hk3 (by rfl) h_nf | skip); (first | have h_nb := RC_nb_av hk3 (by rfl) h_nb | skip); (first | (have hk0 := hkA; clear hk0; have hkB := hk3; (try have hpB := hp); (((have hpA := And.intro hpA.1 (And.intro hpA.2.1 (And.intro hpA.2.2.1 (And.intro hpA.2.2.2.1 (And.intro hpA.2.2.2.2.1 (And.intro hpA.2.2.2.2.2.1 (And.intro hpA.2.2.2.2.2.2.1 (trivial)))))))); (have hkA : kp ([1, 2, 3, 18, 19, 20, 21, 22, 23, 24, 25, 26, 27, 28, 29, 30, 31, 32, 33, 34, 70, 72, 74, 76, 78, 88, 91, 93]) Z _ := kp_mono (by rfl) hkA)); ((obtain ⟨hx, h_stG, h_sn, h_sk⟩ := cu_back_sk hpA hpB hkA hkB hCI o_stG o_sn o_sk; (try dsimp only at hx)); (obtain ⟨hx, h_stG, h_pn, h_sp⟩ := cu_back_pn hpA hpB hkA hkB hCI o_stG o_pn o_sp; (try dsimp only at hx))))) | (have hkA := hk3; (try have hpA := hp); ((have h_nb : RC_nb _ := hpA.2.2.2.2.2.2.2.1; have h_nr : RC_nr _ := hpA.2.2.2.2.2.2.2.2.1); (have h_rv := cu_back_rv hpA hkA hCI o_rv); (have h_rf := cu_back_rf hpA hkA hCI o_rf); (have h_dm := cu_cls_dm hpA.1 hpA.2.1 hpA.2.2.1 (kpF 100 0 hkA (by rfl)) (kpF 100 1 hkA (by rfl)) h_dm)))))
       | (obtain ⟨Z', rfl, rfl, hI2, hk2⟩ := hq; (first | have hk3 := kp_of hk2 | have hk3 := hk2); (first | have hZ := LI_av hZ hI2 hk3 (by rfl) | have hZ := LI_k hZ hI2 hk3 hp.1 hp.2.1 hp.2.2.1 (by rfl) | skip); (first | have h_dm := RC_dm_av hk3 (by rfl) h_dm | skip); (first | have h_wk := RC_wk_av hk3 (by rfl) h_wk | skip); (first | have h_stG := RC_stG_av hk3 (by rfl) h_stG | skip); (first | have h_sn := RC_sn_av hk3 (by rfl) h_sn | skip); (first | have h_sk := RC_sk_av hk3 (by rfl) h_sk | skip); (first | have h_tx := RC_tx_av hk3 (by rfl) h_tx | skip); (first | have h_pn := RC_pn_av hk3 (by rfl) h_pn | skip); (first | have h_sp := RC_sp_av hk3 (by rfl) h_sp | skip); (first | have h_nr := RC_nr_av hk3 (by rfl) h_nr | skip); (first | have h_rv := RC_rv_av hk3 (by rfl) h_rv | skip); (first | have h_rf := RC_rf_av hk3 (by rfl) h_rf | skip); (first | have h_nf := RC_nf_av hk3 (by rfl) h_nf | skip); (first | have h_nb := RC_nb_av hk3 (by rfl) h_nb | skip); (first | (have hk0 := hkA; clear hk0; have hkB := hk3; (try have hpB := hp); (((have hpA := And.intro hpA.1 (And.intro hpA.2.1 (And.intro hpA.2.2.1 (And.intro hpA.2.2.2.1 (And.intro hpA.2.2.2.2.1 (And.intro hpA.2.2.2.2.2.1 (And.intro hpA.2.2.2.2.2.2.1 (trivial)))))))); (have hkA : kp ([1, 2, 3, 18, 19, 20, 21, 22, 23, 24, 25, 26, 27, 28, 29, 30, 31, 32, 33, 34, 70, 72, 74, 76, 78, 88, 91, 93]) Z _ := kp_mono (by rfl) hkA)); ((obtain ⟨hx, h_stG, h_sn, h_sk⟩ := cu_back_sk hpA hpB hkA hkB hCI o_stG o_sn o_sk; (try dsimp only at hx)); (obtain ⟨hx, h_stG, h_pn, h_sp⟩ := cu_back_pn hpA hpB hkA hkB hCI o_stG o_pn o_sp; (try dsimp only at hx))))) | (have hkA := hk3; (try have hpA := hp); ((have h_nb : RC_nb _ := hpA.2.2.2.2.2.2.2.1; have h_nr : RC_nr _ := hpA.2.2.2.2.2.2.2.2.1); (have h_rv := cu_back_rv hpA hkA hCI o_rv); (have h_rf := cu_back_rf hpA hkA hCI o_rf); (have h_dm := cu_cls_dm hpA.1 hpA.2.1 hpA.2.2.1 (kpF 100 0 hkA (by rfl)) (kpF 100 1 hkA (by rfl)) h_dm))))))
    | (intro hc; (try simp only [cmp3_c] at hc); simp only [cmpI] at hc; (try (exfalso; omega))))
  all_goals first
    | with_reducible rfl
    | ((with_reducible show recvG _ _); rfl)
    | with_reducible exact trivial
    | ((with_reducible show BYT (bC _)); exact tx_byC h_tx)
    | ((with_reducible show BYT (mB _)); exact tx_byM h_tx)
    | ((with_reducible show PWF _); exact PN_pwf h_pn)
    | ((with_reducible show NBB _); exact o_nb)
    | ((with_reducible show NBF _); exact o_nf)
    | ((with_reducible show NRC _); exact o_nr)
    | ((with_reducible show NBS _); exact nbs_of o_sn o_pn o_nr o_rv o_rf hCI hE1)
    | ((with_reducible show PLH _); exact PLH_o (fun o h1 h2 => kp_cls hkA (by rfl) o (by omega) (by omega)) (PN_plh o_pn hE1 o_rf.1))
    | ((with_reducible show NWM _); exact NWM_o (fun o h1 h2 => kp_cls hkA (by rfl) o (by omega) (by omega)) (PN_nwm o_pn hCI))
    | ((with_reducible show LNO _); exact LNO_o (fun o h1 h2 => kp_cls hkA (by rfl) o (by omega) (by omega)) (congrFun (kp_cls hkA (by rfl) 100 (by decide) (by decide)) 7) (PN_lno o_pn))
    | ((with_reducible show FRM _); exact FRM_o (kp_cls hkA (by rfl) 112 (by decide) (by decide)) (kp_cls hkA (by rfl) 101 (by decide) (by decide)) (frm_of o_sn o_rv))
    | ((with_reducible show CI _); exact hZ.1)
    | ((with_reducible show E1 _); exact hZ.2.1)
    | ((with_reducible show EB _); exact hZ.2.2.1)
    | ((with_reducible show KB _); exact hZ.2.2.2.1)
    | ((with_reducible show KE _); exact hZ.2.2.2.2)
    | (refine hG.2 1299 _ [(0, vr 0), (1, vr 1), (2, vr 100), (3, vi i)] _ _ rfl ?_; exact hE _ hZ ⟨(by assumption), (by assumption), (by assumption), (by assumption), (by assumption), (by assumption), (by assumption), (by assumption), (by assumption), (by assumption), (by assumption), (by assumption), (by assumption), trivial⟩)
    | decide
    | (refine (sx hi hL (k := 0) (by decide) ?_).1; simp (disch := omega) only [w32_id]; omega)
    | (with_reducible refine (sx hi hL ?_ rfl).1; decide)
    | (with_reducible refine (sx hi hL ?_ rfl).2; decide)
    | omega
    | (dsimp only; omega)
    | (exfalso; omega)
    | rfl
    | skip

set_option maxRecDepth 100000 in
set_option maxHeartbeats 40000000 in
theorem lc_32 {L : Nat} {xs : Nat → Int} {G : GT} (hG : Clo MCL 130 (some (L, xs)) QL G) {i : Int} (hi : 0 ≤ i ∧ i + 7 ≤ (L : Int)) (hL : L ≤ 3584) {Z : ZT} (hZ : LI Z) (hR : RLX Z) (hE : ∀ Z1, LI Z1 → RLX Z1 → G 1299 [(0, vr 0), (1, vr 1), (2, vr 100), (3, vi i)] [] (130, Z1, R0)) : G 1276 [(0, vr 0), (1, vr 1), (2, vr 100), (3, vi i)] [] (130, Z, R0) := by
  obtain ⟨h_dm, h_wk, h_stG, h_sn, h_sk, h_tx, h_pn, h_sp, h_nr, h_rv, h_rf, h_nf, h_nb, -⟩ := hR
  have o_dm := h_dm
  have o_wk := h_wk
  have o_stG := h_stG
  have o_sn := h_sn
  have o_sk := h_sk
  have o_tx := h_tx
  have o_pn := h_pn
  have o_sp := h_sp
  have o_nr := h_nr
  have o_rv := h_rv
  have o_rf := h_rf
  have o_nf := h_nf
  have o_nb := h_nb
  have hCI := hZ.1
  have hp0 : 0 ≤ Z 18 4 ∧ Z 18 4 ≤ 12 := by (have q := hCI 100 19 0 12 rfl; have q2 := h_sn; unfold RC_sn at q2; omega)
  have htx0 : 0 ≤ Z 6 1 ∧ Z 6 1 ≤ 160 := by (have q := hCI 100 5 0 160 rfl; have q2 := h_tx.1; omega)
  have hE1 := hZ.2.1
  have hed : 0 ≤ Z 18 3 ∧ Z 18 3 ≤ 2 := by (have q := hCI 100 2 0 2 rfl; have q2 := h_sn; unfold RC_sn at q2; omega)
  have hek := ek_of h_sk hZ.2.2.2.1
  refine wp_run hG [1299] 200 _ _ _ _ ?_
  repeat' (first
    | with_reducible rfl
    | ((with_reducible show BYT (bC _)); exact tx_byC h_tx)
    | ((with_reducible show BYT (mB _)); exact tx_byM h_tx)
    | ((with_reducible show PWF _); exact PN_pwf h_pn)
    | ((with_reducible show NBB _); exact o_nb)
    | ((with_reducible show NBF _); exact o_nf)
    | ((with_reducible show NRC _); exact o_nr)
    | ((with_reducible show NBS _); exact nbs_of o_sn o_pn o_nr o_rv o_rf hCI hE1)
    | ((with_reducible show PLH _); exact PLH_o (fun o h1 h2 => kp_cls hkA (by rfl) o (by omega) (by omega)) (PN_plh o_pn hE1 o_rf.1))
    | ((with_reducible show NWM _); exact NWM_o (fun o h1 h2 => kp_cls hkA (by rfl) o (by omega) (by omega)) (PN_nwm o_pn hCI))
    | ((with_reducible show LNO _); exact LNO_o (fun o h1 h2 => kp_cls hkA (by rfl) o (by omega) (by omega)) (congrFun (kp_cls hkA (by rfl) 100 (by decide) (by decide)) 7) (PN_lno o_pn))
    | ((with_reducible show FRM _); exact FRM_o (kp_cls hkA (by rfl) 112 (by decide) (by decide)) (kp_cls hkA (by rfl) 101 (by decide) (by decide)) (frm_of o_sn o_rv))
    | refine And.intro ?_ ?_
    | (intro (r : Option PV) σ' hq
       first
       | (obtain ⟨rfl, rfl⟩ := hq)
       | (obtain ⟨rfl, x, rfl, hp⟩ := hq; (try replace hp : _ ∧ _ := hp); (try dsimp only at hp))
       | (obtain ⟨Z', x, rfl, rfl, hI2, hk2, hp⟩ := hq; (try replace hp : _ ∧ _ := hp); (try dsimp only at hp); (first | have hk3 := kp_of hk2 | have hk3 := hk2); (first | have hZ := LI_av hZ hI2 hk3 (by rfl) | skip); (first | have h_dm := RC_dm_av hk3 (by rfl) h_dm | skip); (first | have h_wk := RC_wk_av hk3 (by rfl) h_wk | skip); (first | have h_stG := RC_stG_av hk3 (by rfl) h_stG | skip); (first | have h_sn := RC_sn_av hk3 (by rfl) h_sn | skip); (first | have h_sk := RC_sk_av hk3 (by rfl) h_sk | skip); (first | have h_tx := RC_tx_av hk3 (by rfl) h_tx | skip); (first | have h_pn := RC_pn_av hk3 (by rfl) h_pn | skip); (first | have h_sp := RC_sp_av hk3 (by rfl) h_sp | skip); (first | have h_nr := RC_nr_av hk3 (by rfl) h_nr | skip); (first | have h_rv := RC_rv_av hk3 (by rfl) h_rv | skip); (first | have h_rf := RC_rf_av hk3 (by rfl) h_rf | skip); (first | have h_nf := RC_nf_av hk3 (by rfl) h_nf | skip); (first | have h_nb := RC_nb_av hk3 (by rfl) h_nb | skip))
       | (obtain ⟨Z', x, rfl, rfl, hI2, hk2⟩ := hq; (first | have hk3 := kp_of hk2 | have hk3 := hk2); (first | have hZ := LI_av hZ hI2 hk3 (by rfl) | skip); (first | have h_dm := RC_dm_av hk3 (by rfl) h_dm | skip); (first | have h_wk := RC_wk_av hk3 (by rfl) h_wk | skip); (first | have h_stG := RC_stG_av hk3 (by rfl) h_stG | skip); (first | have h_sn := RC_sn_av hk3 (by rfl) h_sn | skip); (first | have h_sk := RC_sk_av hk3 (by rfl) h_sk | skip); (first | have h_tx := RC_tx_av hk3 (by rfl) h_tx | skip); (first | have h_pn := RC_pn_av hk3 (by rfl) h_pn | skip); (first | have h_sp := RC_sp_av hk3 (by rfl) h_sp | skip); (first | have h_nr := RC_nr_av hk3 (by rfl) h_nr | skip); (first | have h_rv := RC_rv_av hk3 (by rfl) h_rv | skip); (first | have h_rf := RC_rf_av hk3 (by rfl) h_rf | skip); (first | have h_nf := RC_nf_av hk3 (by rfl) h_nf | skip); (first | have h_nb := RC_nb_av hk3 (by rfl) h_nb | skip))
       | (rcases hq with ⟨Z', rfl, rfl, hI2, hk2⟩ | ⟨Z', rfl, rfl, hI2, hk2⟩ <;> ((first | have hk3 := kp_of hk2 | have hk3 := hk2); (first | have hZ := LI_av hZ hI2 hk3 (by rfl) | skip); (first | have h_dm := RC_dm_av hk3 (by rfl) h_dm | skip); (first | have h_wk := RC_wk_av hk3 (by rfl) h_wk | skip); (first | have h_stG := RC_stG_av hk3 (by rfl) h_stG | skip); (first | have h_sn := RC_sn_av hk3 (by rfl) h_sn | skip); (first | have h_sk := RC_sk_av hk3 (by rfl) h_sk | skip); (first | have h_tx := RC_tx_av hk3 (by rfl) h_tx | skip); (first | have h_pn := RC_pn_av hk3 (by rfl) h_pn | skip); (first | have h_sp := RC_sp_av hk3 (by rfl) h_sp | skip); (first | have h_nr := RC_nr_av hk3 (by rfl) h_nr | skip); (first | have h_rv := RC_rv_av hk3 (by rfl) h_rv | skip); (first | have h_rf := RC_rf_av hk3 (by rfl) h_rf | skip); (first | have h_nf := RC_nf_av hk3 (by rfl) h_nf | skip); (first | have h_nb := RC_nb_av hk3 (by rfl) h_nb | skip)))
       | (obtain ⟨Z', rfl, rfl, hI2, hk2, hp⟩ := hq; (first | have hk3 := kp_of hk2 | have hk3 := hk2); (first | have hZ := LI_av hZ hI2 hk3 (by rfl) | skip); (first | have h_dm := RC_dm_av hk3 (by rfl) h_dm | skip); (first | have h_wk := RC_wk_av hk3 (by rfl) h_wk | skip); (first | have h_stG := RC_stG_av hk3 (by rfl) h_stG | skip); (first | have h_sn := RC_sn_av hk3 (by rfl) h_sn | skip); (first | have h_sk := RC_sk_av hk3 (by rfl) h_sk | skip); (first | have h_tx := RC_tx_av hk3 (by rfl) h_tx | skip); (first | have h_pn := RC_pn_av hk3 (by rfl) h_pn | skip); (first | have h_sp := RC_sp_av hk3 (by rfl) h_sp | skip); (first | have h_nr := RC_nr_av hk3 (by rfl) h_nr | skip); (first | have h_rv := RC_rv_av hk3 (by rfl) h_rv | skip); (first | have h_rf := RC_rf_av hk3 (by rfl) h_rf | skip); (first | have h_nf := RC_nf_av hk3 (by rfl) h_nf | skip); (first | have h_nb := RC_nb_av hk3 (by rfl) h_nb | skip))
       | (obtain ⟨Z', rfl, rfl, hI2, hk2⟩ := hq; (first | have hk3 := kp_of hk2 | have hk3 := hk2); (first | have hZ := LI_av hZ hI2 hk3 (by rfl) | skip); (first | have h_dm := RC_dm_av hk3 (by rfl) h_dm | skip); (first | have h_wk := RC_wk_av hk3 (by rfl) h_wk | skip); (first | have h_stG := RC_stG_av hk3 (by rfl) h_stG | skip); (first | have h_sn := RC_sn_av hk3 (by rfl) h_sn | skip); (first | have h_sk := RC_sk_av hk3 (by rfl) h_sk | skip); (first | have h_tx := RC_tx_av hk3 (by rfl) h_tx | skip); (first | have h_pn := RC_pn_av hk3 (by rfl) h_pn | skip); (first | have h_sp := RC_sp_av hk3 (by rfl) h_sp | skip); (first | have h_nr := RC_nr_av hk3 (by rfl) h_nr | skip); (first | have h_rv := RC_rv_av hk3 (by rfl) h_rv | skip); (first | have h_rf := RC_rf_av hk3 (by rfl) h_rf | skip); (first | have h_nf := RC_nf_av hk3 (by rfl) h_nf | skip); (first | have h_nb := RC_nb_av hk3 (by rfl) h_nb | skip)))
    | (intro hc; (try simp only [cmp3_c] at hc); simp only [cmpI] at hc; (try (exfalso; omega))))
  all_goals first
    | with_reducible rfl
    | ((with_reducible show recvG _ _); rfl)
    | with_reducible exact trivial
    | ((with_reducible show BYT (bC _)); exact tx_byC h_tx)
    | ((with_reducible show BYT (mB _)); exact tx_byM h_tx)
    | ((with_reducible show PWF _); exact PN_pwf h_pn)
    | ((with_reducible show NBB _); exact o_nb)
    | ((with_reducible show NBF _); exact o_nf)
    | ((with_reducible show NRC _); exact o_nr)
    | ((with_reducible show NBS _); exact nbs_of o_sn o_pn o_nr o_rv o_rf hCI hE1)
    | ((with_reducible show PLH _); exact PLH_o (fun o h1 h2 => kp_cls hkA (by rfl) o (by omega) (by omega)) (PN_plh o_pn hE1 o_rf.1))
    | ((with_reducible show NWM _); exact NWM_o (fun o h1 h2 => kp_cls hkA (by rfl) o (by omega) (by omega)) (PN_nwm o_pn hCI))
    | ((with_reducible show LNO _); exact LNO_o (fun o h1 h2 => kp_cls hkA (by rfl) o (by omega) (by omega)) (congrFun (kp_cls hkA (by rfl) 100 (by decide) (by decide)) 7) (PN_lno o_pn))
    | ((with_reducible show FRM _); exact FRM_o (kp_cls hkA (by rfl) 112 (by decide) (by decide)) (kp_cls hkA (by rfl) 101 (by decide) (by decide)) (frm_of o_sn o_rv))
    | ((with_reducible show CI _); exact hZ.1)
    | ((with_reducible show E1 _); exact hZ.2.1)
    | ((with_reducible show EB _); exact hZ.2.2.1)
    | ((with_reducible show KB _); exact hZ.2.2.2.1)
    | ((with_reducible show KE _); exact hZ.2.2.2.2)
    | (refine hG.2 1299 _ [(0, vr 0), (1, vr 1), (2, vr 100), (3, vi i)] _ _ rfl ?_; exact hE _ hZ ⟨(by assumption), (by assumption), (by assumption), (by assumption), (by assumption), (by assumption), (by assumption), (by assumption), (by assumption), (by assumption), (by assumption), (by assumption), (by assumption), trivial⟩)
    | decide
    | (refine (sx hi hL (k := 0) (by decide) ?_).1; simp (disch := omega) only [w32_id]; omega)
    | (with_reducible refine (sx hi hL ?_ rfl).1; decide)
    | (with_reducible refine (sx hi hL ?_ rfl).2; decide)
    | omega
    | (dsimp only; omega)
    | (exfalso; omega)
    | rfl
    | skip
