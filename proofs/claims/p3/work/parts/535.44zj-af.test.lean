/-! ===== times begun anew ===== -/
def s_X10_giveY : Sp := rRI 3 10 (fun as Z => match as with
    | [.inr (.inr a0), .inl a1, .inl a2] => ((a0 = 1)) ∧ (True) ∧ (True) ∧ (TM Z) ∧ True
    | _ => False) (fun as => match as with
    | [.inr (.inr a0), .inl a1, .inl a2] => [88, 89, 91]
    | _ => []) (fun as Z (x : Int) Z' => match as with
    | [.inr (.inr a0), .inl a1, .inl a2] => (x = -1 ∧ ¬(0 ≤ a1 ∧ a1 < Z 2 2 ∧ a1 < 36 ∧ 0 ≤ a2 ∧ a2 ≤ 5) ∧ Z' 89 = Z 89 ∨ x = Z 89 a1.toNat ∧ (0 ≤ a1 ∧ a1 < Z 2 2 ∧ a1 < 36 ∧ 0 ≤ a2 ∧ a2 ≤ 5) ∧ Z' 89 = upZ Z 89 a1.toNat a2 89) ∧ (TM Z') ∧ True
    | _ => False)
set_option maxRecDepth 100000 in
set_option maxHeartbeats 40000000 in
theorem c_X10_giveY {l : Launch} {D : va_G} {cA : Nat → ClassId} : PM l D cA yX10_give cX10_give 4 (some .int) 1 21 s_X10_giveY := by
  refine of_X10_give (c_X10_isCell) ⟨rfl, rfl⟩ (c_X10_isPerson) ⟨rfl, rfl⟩ (c_X9_restartX) ⟨rfl, rfl⟩ (fun as σ hwf hao hpre => ?_)
  obtain ⟨n, Z, R⟩ := σ
  obtain ⟨hR, hI, hpre⟩ := hpre
  obtain rfl : R = R0 := hR
  (try replace hI : CI Z := hI)
  rcases as with _ | ⟨x | x | a0, _ | ⟨a1 | x | x, _ | ⟨a2 | x | x, _ | ⟨v, t⟩⟩⟩⟩ <;> first | exact (hpre : False).elim | skip
  obtain ⟨k1l, k1u⟩ : okI a1 := hao (vi a1) (by simp)
  obtain ⟨k2l, k2u⟩ : okI a2 := hao (vi a2) (by simp)
  obtain ⟨h0, h1, h2, q0, -⟩ := hpre
  have hk : kp ([88, 89, 91]) Z Z := kp_refl
  refine ⟨Nat.le_of_ble_eq_true rfl, fun G hG => ?_⟩
  clear hao hwf
  (try dsimp only at q0)
  obtain rfl := h0
  have e89 : Z 89 = Z 89 := rfl
  have e90 : Z 90 = Z 90 := rfl
  refine wq_run hG n R0 [] 900 _ _ _ _ ?_
  repeat' (first
      | with_reducible rfl
      | refine And.intro ?_ ?_
      | with_reducible exact True.intro
      | ((with_reducible show _ = true); rfl)
      | ((with_reducible show recvG _ _); rfl)
      | ((with_reducible show CI _); first | with_reducible assumption | assumption)
      | (fail_if_success (first | (with_reducible show _ ≤ _) | (with_reducible show _ = _) | (with_reducible show _ ∨ _) | (with_reducible show _ < _))
         first
         | (refine ld_bnd (by first | with_reducible assumption | assumption) rfl ?_; intro _ _ _ hld; (try dsimp only at hld); (try simp only [Nat.reduceAdd] at hld))
         | (refine st_k (by first | with_reducible assumption | assumption) (by first | with_reducible assumption | assumption) (by first | exact Or.inl (by decide) | exact Or.inr (by decide)) (fun lo hi hb => by first | (cases hb; done) | (cases hb; constructor <;> (first | omega | ((try dsimp only); (first | omega | (simp (disch := omega) only [w32_id, w64_id]; omega) | (simp only [w32, w64]; omega) | (with_reducible refine (and32_le ?_ ?_).1 <;> omega) | (with_reducible refine (and32_le ?_ ?_).2 <;> omega) | (with_reducible refine (mulR ?_ ?_ ?_ ?_).1 <;> omega) | (with_reducible refine (mulR ?_ ?_ ?_ ?_).2 <;> omega) | (simp only [w32, w64] at *; omega) | (simp (disch := omega) only [w32_id, w64_id] at *; omega) | (simp (disch := omega) only [tdiv_nn, tmod_nn, w32_id, w64_id] at *; omega) | (subst_vars; simp [upZ] at *; omega) | (subst_vars; simp [upZ] at *; simp only [w32, w64] at *; omega))) | fail))) ?_; intro Z' _ hkk; intro hld; (try dsimp only at hld); (try simp only [Nat.reduceAdd] at hld); intro hup; (try dsimp only at hup); (first | have := (congrFun (congrFun hup 88) 4).trans (up_ne (by decide)) | have := (congrFun (congrFun hup 88) 4).trans (up_nk (o := 88) (by decide)) | skip); (first | have fl91 := FL_up hup fl91 (by first | rfl | omega) (by omega) | have fl91 := FL_o (up_o hup (by decide)) fl91 | skip); (try have e89 := (up_o hup (by decide)).trans e89); (try have e90 := (up_o hup (by decide)).trans e90); (first | have f89 : _ = upZ _ 89 _ _ 89 := congrFun hup 89 | have f89 := (up_o hup (by decide)).trans f89 | skip))
         | (refine st_k (by first | with_reducible assumption | assumption) (by first | with_reducible assumption | assumption) (by first | exact Or.inl (by decide) | exact Or.inr (by decide)) (fun lo hi hb => ?_) ?_; (cases hb; refine And.intro ?_ ?_))
         | refine st_same ?_
         | (intro (r : Option PV) σ' hq
            first
            | (obtain ⟨rfl, x, rfl, hp⟩ := hq; (try replace hp : _ ∧ _ := hp); (try dsimp only at hp); (first | (have fl91 : FL _ 91 _ 6 := hp.2.1; have h84 := hp.1) | skip))
            | (obtain ⟨Z', (o : Nat), rfl, rfl, hI2, hk2, ⟨⟨hp, rfl⟩ | ⟨hp, rfl⟩, -⟩⟩ := hq <;> ((first | have hk3 := kp_to (by first | with_reducible assumption | assumption) (by rfl) hk2 | have hk3 := ks_to (by first | with_reducible assumption | assumption) (by rfl) hk2); (first | have e89 := (kp_av (o := 89) hk2 (by rfl) (by decide)).trans e89 | have e89 := (ks_av (o := 89) hk2 (by rfl)).trans e89 | skip); (first | have e90 := (kp_av (o := 90) hk2 (by rfl) (by decide)).trans e90 | have e90 := (ks_av (o := 90) hk2 (by rfl)).trans e90 | skip); (first | have f89 := (kp_av (o := 89) hk2 (by rfl) (by decide)).trans f89 | have f89 := (ks_av (o := 89) hk2 (by rfl)).trans f89 | skip); (first | have fl91 := FL_o (kp_av (o := 91) hk2 (by rfl) (by decide)) fl91 | have fl91 := FL_o (ks_av (o := 91) hk2 (by rfl)) fl91 | skip); (first | have := kpF 88 4 hk2 (by rfl) | have := ksF 88 4 hk2 (by rfl) | skip); (try dsimp only at this); clear hk2))
            | (obtain ⟨Z', x, rfl, rfl, hI2, hk2, hp⟩ := hq; (try replace hp : _ ∧ _ := hp); (try dsimp only at hp); (first | have hk3 := kp_to (by first | with_reducible assumption | assumption) (by rfl) hk2 | have hk3 := ks_to (by first | with_reducible assumption | assumption) (by rfl) hk2); (first | have e89 := (kp_av (o := 89) hk2 (by rfl) (by decide)).trans e89 | have e89 := (ks_av (o := 89) hk2 (by rfl)).trans e89 | skip); (first | have e90 := (kp_av (o := 90) hk2 (by rfl) (by decide)).trans e90 | have e90 := (ks_av (o := 90) hk2 (by rfl)).trans e90 | skip); (first | have f89 := (kp_av (o := 89) hk2 (by rfl) (by decide)).trans f89 | have f89 := (ks_av (o := 89) hk2 (by rfl)).trans f89 | skip); (first | have fl91 := FL_o (kp_av (o := 91) hk2 (by rfl) (by decide)) fl91 | have fl91 := FL_o (ks_av (o := 91) hk2 (by rfl)) fl91 | skip); (first | have := kpF 88 4 hk2 (by rfl) | have := ksF 88 4 hk2 (by rfl) | skip); (try dsimp only at this); clear hk2; (first | (have fl91 : FL _ 91 _ 6 := hp.2.1; have h84 := hp.1) | skip))
            | (obtain ⟨Z', rfl, rfl, hI2, hk2, hp⟩ := hq; (try replace hp : _ ∧ _ := hp); (try dsimp only at hp); (first | have hk3 := kp_to (by first | with_reducible assumption | assumption) (by rfl) hk2 | have hk3 := ks_to (by first | with_reducible assumption | assumption) (by rfl) hk2); (first | have e89 := (kp_av (o := 89) hk2 (by rfl) (by decide)).trans e89 | have e89 := (ks_av (o := 89) hk2 (by rfl)).trans e89 | skip); (first | have e90 := (kp_av (o := 90) hk2 (by rfl) (by decide)).trans e90 | have e90 := (ks_av (o := 90) hk2 (by rfl)).trans e90 | skip); (first | have f89 := (kp_av (o := 89) hk2 (by rfl) (by decide)).trans f89 | have f89 := (ks_av (o := 89) hk2 (by rfl)).trans f89 | skip); (first | have fl91 := FL_o (kp_av (o := 91) hk2 (by rfl) (by decide)) fl91 | have fl91 := FL_o (ks_av (o := 91) hk2 (by rfl)) fl91 | skip); (first | have := kpF 88 4 hk2 (by rfl) | have := ksF 88 4 hk2 (by rfl) | skip); (try dsimp only at this); clear hk2; (first | (have fl91 : FL _ 91 _ 6 := hp.2.1; have h84 := hp.1) | skip))
            | (obtain ⟨rfl, rfl⟩ := hq)
            | (obtain ⟨Z', x, rfl, rfl, hI2, hk2⟩ := hq; have hkn := keeps_nil hk2; clear hk2; subst hkn)
            | (obtain ⟨Z', x, rfl, rfl, hI2, hk2⟩ := hq; (first | have hk3 := kp_to (by first | with_reducible assumption | assumption) (by rfl) hk2 | have hk3 := ks_to (by first | with_reducible assumption | assumption) (by rfl) hk2); (first | have e89 := (kp_av (o := 89) hk2 (by rfl) (by decide)).trans e89 | have e89 := (ks_av (o := 89) hk2 (by rfl)).trans e89 | skip); (first | have e90 := (kp_av (o := 90) hk2 (by rfl) (by decide)).trans e90 | have e90 := (ks_av (o := 90) hk2 (by rfl)).trans e90 | skip); (first | have f89 := (kp_av (o := 89) hk2 (by rfl) (by decide)).trans f89 | have f89 := (ks_av (o := 89) hk2 (by rfl)).trans f89 | skip); (first | have fl91 := FL_o (kp_av (o := 91) hk2 (by rfl) (by decide)) fl91 | have fl91 := FL_o (ks_av (o := 91) hk2 (by rfl)) fl91 | skip); (first | have := kpF 88 4 hk2 (by rfl) | have := ksF 88 4 hk2 (by rfl) | skip); (try dsimp only at this); clear hk2)
            | (rcases hq with ⟨Z', rfl, rfl, hI2, hk2⟩ | ⟨Z', rfl, rfl, hI2, hk2⟩ <;> ((first | have hk3 := kp_to (by first | with_reducible assumption | assumption) (by rfl) hk2 | have hk3 := ks_to (by first | with_reducible assumption | assumption) (by rfl) hk2); (first | have e89 := (kp_av (o := 89) hk2 (by rfl) (by decide)).trans e89 | have e89 := (ks_av (o := 89) hk2 (by rfl)).trans e89 | skip); (first | have e90 := (kp_av (o := 90) hk2 (by rfl) (by decide)).trans e90 | have e90 := (ks_av (o := 90) hk2 (by rfl)).trans e90 | skip); (first | have f89 := (kp_av (o := 89) hk2 (by rfl) (by decide)).trans f89 | have f89 := (ks_av (o := 89) hk2 (by rfl)).trans f89 | skip); (first | have fl91 := FL_o (kp_av (o := 91) hk2 (by rfl) (by decide)) fl91 | have fl91 := FL_o (ks_av (o := 91) hk2 (by rfl)) fl91 | skip); (first | have := kpF 88 4 hk2 (by rfl) | have := ksF 88 4 hk2 (by rfl) | skip); (try dsimp only at this); clear hk2))
            | (obtain ⟨Z', rfl, rfl, hI2, hk2⟩ := hq; (first | have hk3 := kp_to (by first | with_reducible assumption | assumption) (by rfl) hk2 | have hk3 := ks_to (by first | with_reducible assumption | assumption) (by rfl) hk2); (first | have e89 := (kp_av (o := 89) hk2 (by rfl) (by decide)).trans e89 | have e89 := (ks_av (o := 89) hk2 (by rfl)).trans e89 | skip); (first | have e90 := (kp_av (o := 90) hk2 (by rfl) (by decide)).trans e90 | have e90 := (ks_av (o := 90) hk2 (by rfl)).trans e90 | skip); (first | have f89 := (kp_av (o := 89) hk2 (by rfl) (by decide)).trans f89 | have f89 := (ks_av (o := 89) hk2 (by rfl)).trans f89 | skip); (first | have fl91 := FL_o (kp_av (o := 91) hk2 (by rfl) (by decide)) fl91 | have fl91 := FL_o (ks_av (o := 91) hk2 (by rfl)) fl91 | skip); (first | have := kpF 88 4 hk2 (by rfl) | have := ksF 88 4 hk2 (by rfl) | skip); (try dsimp only at this); clear hk2))
         | (intro hc; (try simp only [cmp3_c] at hc); simp only [cmpI] at hc)
         | (show CI _; assumption)
         | intro (_ : Int)
         | intro (Z' : ZT)
         | intro (_ : CI _)
         | (intro (hkk : kp _ _ _))
         | intro (_ : _ ≤ _)
         | (intro (hup : _ = upZ _ _ _ _); (try dsimp only at hup); (first | have := (congrFun (congrFun hup 88) 4).trans (up_ne (by decide)) | have := (congrFun (congrFun hup 88) 4).trans (up_nk (o := 88) (by decide)) | skip); (first | have fl91 := FL_up hup fl91 (by first | rfl | omega) (by omega) | have fl91 := FL_o (up_o hup (by decide)) fl91 | skip); (try have e89 := (up_o hup (by decide)).trans e89); (try have e90 := (up_o hup (by decide)).trans e90); (first | have f89 : _ = upZ _ 89 _ _ 89 := congrFun hup 89 | have f89 := (up_o hup (by decide)).trans f89 | skip))
         | (intro (hld : _ = _); (try dsimp only at hld); (try simp only [Nat.reduceAdd] at hld))
         | intro (_ : _ < _)
         | intro (_ : _ ≠ _)
         | intro (_ : _ ∨ _)))
  all_goals first
    | with_reducible rfl
    | ((with_reducible show _ = _); rfl)
    | ((with_reducible show recvG _ _); rfl)
    | with_reducible exact trivial
    | with_reducible assumption
    | (refine Exists.intro _ (Exists.intro _ (And.intro rfl (And.intro rfl ?_))); refine ⟨by assumption, by assumption, ?_⟩; (refine ⟨?_, ?_, trivial⟩; (first | done | focus (first | (dsimp only; done) | ((try dsimp only); ((first | exact Or.inl ⟨rfl, by omega, by assumption⟩ | exact Or.inr ⟨by assumption, by omega, by assumption⟩ | fail))))); (first | done | focus (first | (dsimp only; done) | ((try dsimp only); ((first | exact q0 | exact TM_1 (by assumption) (Z36_o e90 q0.1) (by omega) fl91 | fail)))))))
    | (refine Exists.intro _ (Exists.intro _ (And.intro rfl (And.intro rfl ?_))); refine ⟨by assumption, by assumption, ?_⟩; simp only [Nat.reduceAdd] at *; (refine ⟨?_, ?_, trivial⟩; (first | done | focus (first | (dsimp only; done) | ((try dsimp only); ((first | exact Or.inl ⟨rfl, by omega, by assumption⟩ | exact Or.inr ⟨by assumption, by omega, by assumption⟩ | fail))))); (first | done | focus (first | (dsimp only; done) | ((try dsimp only); ((first | exact q0 | exact TM_1 (by assumption) (Z36_o e90 q0.1) (by omega) fl91 | fail)))))))
    | omega
    | (dsimp only; omega)
    | decide
    | (show (0 : Int) < _; omega)
    | (show (0 : Int) < _; simp only [w64] at *; omega)
    | (simp only [w32, w64] at *; omega)
    | (first | omega | ((try dsimp only); (first | omega | (simp (disch := omega) only [w32_id, w64_id]; omega) | (simp only [w32, w64]; omega) | (with_reducible refine (and32_le ?_ ?_).1 <;> omega) | (with_reducible refine (and32_le ?_ ?_).2 <;> omega) | (with_reducible refine (mulR ?_ ?_ ?_ ?_).1 <;> omega) | (with_reducible refine (mulR ?_ ?_ ?_ ?_).2 <;> omega) | (simp only [w32, w64] at *; omega) | (simp (disch := omega) only [w32_id, w64_id] at *; omega) | (simp (disch := omega) only [tdiv_nn, tmod_nn, w32_id, w64_id] at *; omega) | (subst_vars; simp [upZ] at *; omega) | (subst_vars; simp [upZ] at *; simp only [w32, w64] at *; omega))) | fail)
    | ((with_reducible show swT _ _ _ _); exact trivial)
    | rfl
    | skip
