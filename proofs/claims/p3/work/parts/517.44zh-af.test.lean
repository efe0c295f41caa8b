/-! ===== the class's times, exactly ===== -/
def s_X9_workX : Sp := rRV 4 9 (fun as Z => match as with
    | [.inr (.inr a0), .inr (.inr a1), .inr (.inr a2), .inl a3] => (((a0 = 88 ∧ a1 = 2 ∧ a2 = 86))) ∧ (True) ∧ (True) ∧ ((1 ≤ a3 ∧ a3 ≤ 12)) ∧ (NRC Z) ∧ (OWR Z) ∧ (AG (Z 90) (tsS (envC Z) (Z 2 2).toNat (a3 - 1).toNat).1 (Z 2 2).toNat (a3 - 1).toNat 0) ∧ (FG (Z 91) (tsS (envC Z) (Z 2 2).toNat (a3 - 1).toNat).2) ∧ True
    | _ => False) (fun as => match as with
    | [.inr (.inr a0), .inr (.inr a1), .inr (.inr a2), .inl a3] => [a0 + 2, a0 + 3]
    | _ => []) (fun as Z Z' => match as with
    | [.inr (.inr a0), .inr (.inr a1), .inr (.inr a2), .inl a3] => (AG (Z' 90) (tsS (envC Z) (Z 2 2).toNat a3.toNat).1 (Z 2 2).toNat a3.toNat 0) ∧ (FG (Z' 91) (tsS (envC Z) (Z 2 2).toNat a3.toNat).2) ∧ (∀ c : Nat, c < 36 → Z' 90 c = Z 90 c) ∧ True
    | _ => False)
set_option maxRecDepth 100000 in
set_option maxHeartbeats 40000000 in
theorem c_X9_workX {l : Launch} {D : va_G} {cA : Nat → ClassId} : PM l D cA yX9_work cX9_work 8 none 2 51 s_X9_workX := by
  refine of_X9_work (c_X9_notesComeX) ⟨rfl, rfl⟩ (c_J9_max_7cf53) ⟨rfl, rfl⟩ (c_X2_paceOfX) ⟨rfl, rfl⟩ (fun as σ hwf hao hpre => ?_)
  obtain ⟨n, Z, R⟩ := σ
  obtain ⟨hR, hI, hpre⟩ := hpre
  obtain rfl : R = R0 := hR
  (try replace hI : CI Z := hI)
  rcases as with _ | ⟨x | x | a0, _ | ⟨x | x | a1, _ | ⟨x | x | a2, _ | ⟨a3 | x | x, _ | ⟨v, t⟩⟩⟩⟩⟩ <;> first | exact (hpre : False).elim | skip
  obtain ⟨k3l, k3u⟩ : okI a3 := hao (vi a3) (by simp)
  obtain ⟨h0, h1, h2, h3, q0, q1, q2, q3, -⟩ := hpre
  have hk : kp ([a0 + 2, a0 + 3]) Z Z := kp_refl
  refine ⟨Nat.le_of_ble_eq_true rfl, fun G hG => ?_⟩
  clear hao hwf
  (try dsimp only at q0)
  (try dsimp only at q1)
  (try dsimp only at q2)
  (try dsimp only at q3)
  rcases h0 with ⟨rfl, rfl, rfl⟩
  · have loop : ∀ fuel : Nat, (∀ (Z1 : ZT) (v4 : Int), CI Z1 → kp ([88 + 2, 88 + 3]) Z Z1 → ((0 ≤ v4 ∧ v4 ≤ 36) ∧ (v4 ≤ Z 2 2) ∧ (AG (Z1 90) (tsC (envC Z) (tsS (envC Z) (Z 2 2).toNat (a3 - 1).toNat) ((a3 - 1).toNat + 1) v4.toNat).1 (Z 2 2).toNat (a3 - 1).toNat v4.toNat) ∧ (FG (Z1 91) (tsC (envC Z) (tsS (envC Z) (Z 2 2).toNat (a3 - 1).toNat) ((a3 - 1).toNat + 1) v4.toNat).2) ∧ (∀ c : Nat, c < 36 → Z1 90 c = Z 90 c) ∧ True) → 37 - v4 ≤ (fuel : Int) → G 3 [(0, vr 88), (1, vr 2), (2, vr 86), (3, vi a3), (4, vi v4)] [] (n, Z1, R0)) := by
      intro fuel
      induction fuel with
      | zero => exact (by intros; omega)
      | succ fuel ih =>
        have ih3 := ih
        · intro Z1 v4 hI1 hk1 hv hm
          obtain ⟨w0, w1, w2, w3, w4, -⟩ := hv
          clear hk hI
          have hen0 : envC Z1 = envC Z := envC_o (kpF 2 0 hk1 (by rfl)) (kpF 2 1 hk1 (by rfl)) (kpF 18 3 hk1 (by rfl)) (kp_av (o := 89) hk1 (by rfl) (by decide)) (kp_av (o := 87) hk1 (by rfl) (by decide)) (kpF 86 1 hk1 (by rfl))
          have hnr := NRC_o (kpF 2 0 hk1 (by rfl)) (kpF 2 1 hk1 (by rfl)) (kpF 2 2 hk1 (by rfl)) (kpF 18 3 hk1 (by rfl)) (kp_av (o := 3) hk1 (by rfl) (by decide)) q0
          have how := OWR_o (kp_av (o := 89) hk1 (by rfl) (by decide)) q1
          have h22 : Z1 2 2 = Z 2 2 := kpF 2 2 hk1 (by rfl)
          have hag := w2
          have hfg := w3
          rw [← hen0] at hag hfg
          have g91 : Z1 91 = Z1 91 := rfl
          have hN36 : (Z 2 2).toNat ≤ 36 := by (have q := (hI1 2 2 4 36 rfl).2; rw [h22] at q; omega)
          have hN : (((Z 2 2).toNat : Nat) : Int) = Z1 2 0 * Z1 2 1 := by (have q := (hI1 2 2 4 36 rfl).1; rw [← hnr.2, h22]; rw [h22] at q; omega)
          refine wq_run hG n R0 [3] 900 _ _ _ _ ?_
          repeat' (first
              | with_reducible rfl
              | ((with_reducible show NRC _); first | exact hnr | exact q0)
              | ((with_reducible show OWR _); first | exact how | exact q1)
              | refine And.intro ?_ ?_
              | with_reducible exact True.intro
              | ((with_reducible show _ = true); rfl)
              | ((with_reducible show recvG _ _); rfl)
              | ((with_reducible show CI _); first | with_reducible assumption | assumption)
              | (fail_if_success (first | (with_reducible show _ ≤ _) | (with_reducible show _ = _) | (with_reducible show _ ∨ _) | (with_reducible show _ < _))
                 first
                 | (refine ld_bnd (by first | with_reducible assumption | assumption) rfl ?_; intro _ _ _ hld; (try dsimp only at hld); (try simp only [Nat.reduceAdd] at hld); (try have hor := OWR_ld how hld (by omega) (by omega)))
                 | (refine st_k (by first | with_reducible assumption | assumption) (by first | with_reducible assumption | assumption) (by first | exact Or.inl (by decide) | exact Or.inr (by decide)) (fun lo hi hb => by first | (cases hb; done) | (cases hb; constructor <;> (first | omega | ((try dsimp only); (first | omega | (simp (disch := omega) only [w32_id, w64_id]; omega) | (simp only [w32, w64]; omega) | (with_reducible refine (and32_le ?_ ?_).1 <;> omega) | (with_reducible refine (and32_le ?_ ?_).2 <;> omega) | (with_reducible refine (mulR ?_ ?_ ?_ ?_).1 <;> omega) | (with_reducible refine (mulR ?_ ?_ ?_ ?_).2 <;> omega) | (simp only [w32, w64] at *; omega) | (simp (disch := omega) only [w32_id, w64_id] at *; omega) | (simp (disch := omega) only [tdiv_nn, tmod_nn, w32_id, w64_id] at *; omega) | (subst_vars; simp [upZ] at *; omega) | (subst_vars; simp [upZ] at *; simp only [w32, w64] at *; omega))) | fail))) ?_; intro Z' _ hkk; intro hld; (try dsimp only at hld); (try simp only [Nat.reduceAdd] at hld); (try have hor := OWR_ld how hld (by omega) (by omega)); intro hup; (try dsimp only at hup); (first | have f90 : _ = upZ _ 90 _ _ 90 := congrFun hup 90 | have f90 := (up_o hup (by decide)).trans f90 | skip); (first | have f91 : _ = upZ _ 91 _ _ 91 := congrFun hup 91 | have f91 := (up_o hup (by decide)).trans f91 | skip); (try have g91 := (up_o hup (by decide)).trans g91))
                 | (refine st_k (by first | with_reducible assumption | assumption) (by first | with_reducible assumption | assumption) (by first | exact Or.inl (by decide) | exact Or.inr (by decide)) (fun lo hi hb => ?_) ?_; (cases hb; refine And.intro ?_ ?_))
                 | refine st_same ?_
                 | (intro (r : Option PV) σ' hq
                    first
                    | (obtain ⟨rfl, x, rfl, hp⟩ := hq; (try replace hp : _ ∧ _ := hp); (try dsimp only at hp); (first | have hcm := cm_w hp.1 hag (by omega) (by omega) hI1 (by omega) (by omega) | have hpc : _ = Z1 87 _ := hp.1 | have hmx := hp.1 | skip))
                    | (obtain ⟨Z', (o : Nat), rfl, rfl, hI2, hk2, ⟨⟨hp, rfl⟩ | ⟨hp, rfl⟩, -⟩⟩ := hq <;> ((first | have hk3 := kp_to (by first | with_reducible assumption | assumption) (by rfl) hk2 | have hk3 := ks_to (by first | with_reducible assumption | assumption) (by rfl) hk2); clear hk2))
                    | (obtain ⟨Z', x, rfl, rfl, hI2, hk2, hp⟩ := hq; (try replace hp : _ ∧ _ := hp); (try dsimp only at hp); (first | have hk3 := kp_to (by first | with_reducible assumption | assumption) (by rfl) hk2 | have hk3 := ks_to (by first | with_reducible assumption | assumption) (by rfl) hk2); clear hk2; (first | have hcm := cm_w hp.1 hag (by omega) (by omega) hI1 (by omega) (by omega) | have hpc : _ = Z1 87 _ := hp.1 | have hmx := hp.1 | skip))
                    | (obtain ⟨Z', rfl, rfl, hI2, hk2, hp⟩ := hq; (try replace hp : _ ∧ _ := hp); (try dsimp only at hp); (first | have hk3 := kp_to (by first | with_reducible assumption | assumption) (by rfl) hk2 | have hk3 := ks_to (by first | with_reducible assumption | assumption) (by rfl) hk2); clear hk2; (first | have hcm := cm_w hp.1 hag (by omega) (by omega) hI1 (by omega) (by omega) | have hpc : _ = Z1 87 _ := hp.1 | have hmx := hp.1 | skip))
                    | (obtain ⟨rfl, rfl⟩ := hq)
                    | (obtain ⟨Z', x, rfl, rfl, hI2, hk2⟩ := hq; have hkn := keeps_nil hk2; clear hk2; subst hkn)
                    | (obtain ⟨Z', x, rfl, rfl, hI2, hk2⟩ := hq; (first | have hk3 := kp_to (by first | with_reducible assumption | assumption) (by rfl) hk2 | have hk3 := ks_to (by first | with_reducible assumption | assumption) (by rfl) hk2); clear hk2)
                    | (rcases hq with ⟨Z', rfl, rfl, hI2, hk2⟩ | ⟨Z', rfl, rfl, hI2, hk2⟩ <;> ((first | have hk3 := kp_to (by first | with_reducible assumption | assumption) (by rfl) hk2 | have hk3 := ks_to (by first | with_reducible assumption | assumption) (by rfl) hk2); clear hk2))
                    | (obtain ⟨Z', rfl, rfl, hI2, hk2⟩ := hq; (first | have hk3 := kp_to (by first | with_reducible assumption | assumption) (by rfl) hk2 | have hk3 := ks_to (by first | with_reducible assumption | assumption) (by rfl) hk2); clear hk2))
                 | (intro hc; (try simp only [cmp3_c] at hc); simp only [cmpI] at hc)
                 | (show CI _; assumption)
                 | intro (_ : Int)
                 | intro (Z' : ZT)
                 | intro (_ : CI _)
                 | (intro (hkk : kp _ _ _))
                 | intro (_ : _ ≤ _)
                 | (intro (hup : _ = upZ _ _ _ _); (try dsimp only at hup); (first | have f90 : _ = upZ _ 90 _ _ 90 := congrFun hup 90 | have f90 := (up_o hup (by decide)).trans f90 | skip); (first | have f91 : _ = upZ _ 91 _ _ 91 := congrFun hup 91 | have f91 := (up_o hup (by decide)).trans f91 | skip); (try have g91 := (up_o hup (by decide)).trans g91))
                 | (intro (hld : _ = _); (try dsimp only at hld); (try simp only [Nat.reduceAdd] at hld); (try have hor := OWR_ld how hld (by omega) (by omega)))
                 | intro (_ : _ < _)
                 | intro (_ : _ ≠ _)
                 | intro (_ : _ ∨ _)))
          all_goals first
            | refine hG.2 3 _ [(0, vr 88), (1, vr 2), (2, vr 86), (3, vi a3), (4, vi _)] _ _ rfl ?_
            | skip
          all_goals first
            | with_reducible rfl
            | ((with_reducible show _ = _); rfl)
            | ((with_reducible show recvG _ _); rfl)
            | ((with_reducible show G 3 _ _ _); refine ih3 _ _ ?_ ?_ ?_ ?_; assumption; assumption; (refine ⟨?_, ?_, ?_, ?_, ?_, trivial⟩; (first | done | focus (first | (dsimp only; done) | ((try dsimp only); (first | omega | (refine ⟨?_, ?_⟩ <;> (first | omega | ((try dsimp only); (first | omega | (simp (disch := omega) only [w32_id, w64_id]; omega) | (simp only [w32, w64]; omega) | (with_reducible refine (and32_le ?_ ?_).1 <;> omega) | (with_reducible refine (and32_le ?_ ?_).2 <;> omega) | (with_reducible refine (mulR ?_ ?_ ?_ ?_).1 <;> omega) | (with_reducible refine (mulR ?_ ?_ ?_ ?_).2 <;> omega) | (simp only [w32, w64] at *; omega) | (simp (disch := omega) only [w32_id, w64_id] at *; omega) | (simp (disch := omega) only [tdiv_nn, tmod_nn, w32_id, w64_id] at *; omega) | (subst_vars; simp [upZ] at *; omega) | (subst_vars; simp [upZ] at *; simp only [w32, w64] at *; omega))) | fail)) | (first | omega | ((try dsimp only); (first | omega | (simp (disch := omega) only [w32_id, w64_id]; omega) | (simp only [w32, w64]; omega) | (with_reducible refine (and32_le ?_ ?_).1 <;> omega) | (with_reducible refine (and32_le ?_ ?_).2 <;> omega) | (with_reducible refine (mulR ?_ ?_ ?_ ?_).1 <;> omega) | (with_reducible refine (mulR ?_ ?_ ?_ ?_).2 <;> omega) | (simp only [w32, w64] at *; omega) | (simp (disch := omega) only [w32_id, w64_id] at *; omega) | (simp (disch := omega) only [tdiv_nn, tmod_nn, w32_id, w64_id] at *; omega) | (subst_vars; simp [upZ] at *; omega) | (subst_vars; simp [upZ] at *; simp only [w32, w64] at *; omega))) | fail) | fail)))); (first | done | focus (first | (dsimp only; done) | ((try dsimp only); (first | with_reducible assumption | first | omega | (refine ⟨?_, ?_⟩ <;> (first | omega | ((try dsimp only); (first | omega | (simp (disch := omega) only [w32_id, w64_id]; omega) | (simp only [w32, w64]; omega) | (with_reducible refine (and32_le ?_ ?_).1 <;> omega) | (with_reducible refine (and32_le ?_ ?_).2 <;> omega) | (with_reducible refine (mulR ?_ ?_ ?_ ?_).1 <;> omega) | (with_reducible refine (mulR ?_ ?_ ?_ ?_).2 <;> omega) | (simp only [w32, w64] at *; omega) | (simp (disch := omega) only [w32_id, w64_id] at *; omega) | (simp (disch := omega) only [tdiv_nn, tmod_nn, w32_id, w64_id] at *; omega) | (subst_vars; simp [upZ] at *; omega) | (subst_vars; simp [upZ] at *; simp only [w32, w64] at *; omega))) | fail)) | (first | omega | ((try dsimp only); (first | omega | (simp (disch := omega) only [w32_id, w64_id]; omega) | (simp only [w32, w64]; omega) | (with_reducible refine (and32_le ?_ ?_).1 <;> omega) | (with_reducible refine (and32_le ?_ ?_).2 <;> omega) | (with_reducible refine (mulR ?_ ?_ ?_ ?_).1 <;> omega) | (with_reducible refine (mulR ?_ ?_ ?_ ?_).2 <;> omega) | (simp only [w32, w64] at *; omega) | (simp (disch := omega) only [w32_id, w64_id] at *; omega) | (simp (disch := omega) only [tdiv_nn, tmod_nn, w32_id, w64_id] at *; omega) | (subst_vars; simp [upZ] at *; omega) | (subst_vars; simp [upZ] at *; simp only [w32, w64] at *; omega))) | fail) | fail)))); (first | done | focus (first | (dsimp only; done) | ((try dsimp only); ((first | exact q2 | (rw [← hen0]; refine AG_w hag f90 (by simp (disch := omega) only [w32_id]; omega) ?_ hN36 (by omega) (by first | omega | (simp (disch := omega) only [w32_id]; first | done | omega)); (first | exact en_1 hfg (by assumption) (by omega) (by assumption) hpc (by omega) | exact en_2 hfg (by assumption) (by omega) (by assumption) hpc (by omega) hcm hmx)) | fail))))); (first | done | focus (first | (dsimp only; done) | ((try dsimp only); ((first | exact q3 | (rw [← hen0]; refine FG_w hfg f91 g91 ?_ ?_ (by omega) (by first | omega | (simp (disch := omega) only [w32_id]; first | done | omega)); (show _ = (Z1 89 _).toNat; congr 1; first | assumption | omega); (first | exact en_1 hfg (by assumption) (by omega) (by assumption) hpc (by omega) | exact en_2 hfg (by assumption) (by omega) (by assumption) hpc (by omega) hcm hmx)) | fail))))); (first | done | focus (first | (dsimp only; done) | ((try dsimp only); ((first | exact fun _ _ => rfl | exact L36 w4 f90 (by simp (disch := omega) only [w32_id]; omega) | fail)))))); (first | omega | ((try dsimp only); (first | omega | (simp (disch := omega) only [w32_id, w64_id]; omega) | (simp only [w32, w64]; omega) | (with_reducible refine (and32_le ?_ ?_).1 <;> omega) | (with_reducible refine (and32_le ?_ ?_).2 <;> omega) | (with_reducible refine (mulR ?_ ?_ ?_ ?_).1 <;> omega) | (with_reducible refine (mulR ?_ ?_ ?_ ?_).2 <;> omega) | (simp only [w32, w64] at *; omega) | (simp (disch := omega) only [w32_id, w64_id] at *; omega) | (simp (disch := omega) only [tdiv_nn, tmod_nn, w32_id, w64_id] at *; omega) | (subst_vars; simp [upZ] at *; omega) | (subst_vars; simp [upZ] at *; simp only [w32, w64] at *; omega))) | fail))
            | with_reducible exact trivial
            | with_reducible assumption
            | (refine Exists.intro _ (And.intro rfl (And.intro rfl ?_)); refine ⟨by assumption, by assumption, ?_⟩; (refine ⟨?_, ?_, ?_, trivial⟩; (first | done | focus (first | (dsimp only; done) | ((try dsimp only); (((have e : v4 = Z 2 2 := by omega); subst e; rw [show a3.toNat = (a3 - 1).toNat + 1 by omega]; exact AG_S w2 rfl))))); (first | done | focus (first | (dsimp only; done) | ((try dsimp only); (((have e : v4 = Z 2 2 := by omega); subst e; rw [show a3.toNat = (a3 - 1).toNat + 1 by omega]; exact w3))))); (first | done | focus (first | (dsimp only; done) | ((try dsimp only); (exact w4))))))
            | (refine Exists.intro _ (And.intro rfl (And.intro rfl ?_)); refine ⟨by assumption, by assumption, ?_⟩; simp only [Nat.reduceAdd] at *; (refine ⟨?_, ?_, ?_, trivial⟩; (first | done | focus (first | (dsimp only; done) | ((try dsimp only); (((have e : v4 = Z 2 2 := by omega); subst e; rw [show a3.toNat = (a3 - 1).toNat + 1 by omega]; exact AG_S w2 rfl))))); (first | done | focus (first | (dsimp only; done) | ((try dsimp only); (((have e : v4 = Z 2 2 := by omega); subst e; rw [show a3.toNat = (a3 - 1).toNat + 1 by omega]; exact w3))))); (first | done | focus (first | (dsimp only; done) | ((try dsimp only); (exact w4))))))
            | omega
            | (dsimp only; omega)
            | decide
            | (show (0 : Int) < _; omega)
            | (show (0 : Int) < _; simp only [w64] at *; omega)
            | (simp only [w32, w64] at *; omega)
            | (first | omega | ((try dsimp only); (first | omega | (simp (disch := omega) only [w32_id, w64_id]; omega) | (simp only [w32, w64]; omega) | (with_reducible refine (and32_le ?_ ?_).1 <;> omega) | (with_reducible refine (and32_le ?_ ?_).2 <;> omega) | (with_reducible refine (mulR ?_ ?_ ?_ ?_).1 <;> omega) | (with_reducible refine (mulR ?_ ?_ ?_ ?_).2 <;> omega) | (simp only [w32, w64] at *; omega) | (simp (disch := omega) only [w32_id, w64_id] at *; omega) | (simp (disch := omega) only [tdiv_nn, tmod_nn, w32_id, w64_id] at *; omega) | (subst_vars; simp [upZ] at *; omega) | (subst_vars; simp [upZ] at *; simp only [w32, w64] at *; omega))) | fail)
            | ((with_reducible show swT _ _ _ _); exact trivial)
            | rfl
            | skip
    have hc22 : 4 ≤ Z 2 2 ∧ Z 2 2 ≤ 36 := hI 2 2 4 36 rfl
    refine wq_run hG n R0 [3] 900 _ _ _ _ ?_
    repeat' (first
        | with_reducible rfl
        | ((with_reducible show NRC _); first | exact hnr | exact q0)
        | ((with_reducible show OWR _); first | exact how | exact q1)
        | refine And.intro ?_ ?_
        | with_reducible exact True.intro
        | ((with_reducible show _ = true); rfl)
        | ((with_reducible show recvG _ _); rfl)
        | ((with_reducible show CI _); first | with_reducible assumption | assumption)
        | (fail_if_success (first | (with_reducible show _ ≤ _) | (with_reducible show _ = _) | (with_reducible show _ ∨ _) | (with_reducible show _ < _))
           first
           | (refine ld_bnd (by first | with_reducible assumption | assumption) rfl ?_; intro _ _ _ hld; (try dsimp only at hld); (try simp only [Nat.reduceAdd] at hld); (try have hor := OWR_ld how hld (by omega) (by omega)))
           | (refine st_k (by first | with_reducible assumption | assumption) (by first | with_reducible assumption | assumption) (by first | exact Or.inl (by decide) | exact Or.inr (by decide)) (fun lo hi hb => by first | (cases hb; done) | (cases hb; constructor <;> (first | omega | ((try dsimp only); (first | omega | (simp (disch := omega) only [w32_id, w64_id]; omega) | (simp only [w32, w64]; omega) | (with_reducible refine (and32_le ?_ ?_).1 <;> omega) | (with_reducible refine (and32_le ?_ ?_).2 <;> omega) | (with_reducible refine (mulR ?_ ?_ ?_ ?_).1 <;> omega) | (with_reducible refine (mulR ?_ ?_ ?_ ?_).2 <;> omega) | (simp only [w32, w64] at *; omega) | (simp (disch := omega) only [w32_id, w64_id] at *; omega) | (simp (disch := omega) only [tdiv_nn, tmod_nn, w32_id, w64_id] at *; omega) | (subst_vars; simp [upZ] at *; omega) | (subst_vars; simp [upZ] at *; simp only [w32, w64] at *; omega))) | fail))) ?_; intro Z' _ hkk; intro hld; (try dsimp only at hld); (try simp only [Nat.reduceAdd] at hld); (try have hor := OWR_ld how hld (by omega) (by omega)); intro hup; (try dsimp only at hup); (first | have f90 : _ = upZ _ 90 _ _ 90 := congrFun hup 90 | have f90 := (up_o hup (by decide)).trans f90 | skip); (first | have f91 : _ = upZ _ 91 _ _ 91 := congrFun hup 91 | have f91 := (up_o hup (by decide)).trans f91 | skip); (try have g91 := (up_o hup (by decide)).trans g91))
           | (refine st_k (by first | with_reducible assumption | assumption) (by first | with_reducible assumption | assumption) (by first | exact Or.inl (by decide) | exact Or.inr (by decide)) (fun lo hi hb => ?_) ?_; (cases hb; refine And.intro ?_ ?_))
           | refine st_same ?_
           | (intro (r : Option PV) σ' hq
              first
              | (obtain ⟨rfl, x, rfl, hp⟩ := hq; (try replace hp : _ ∧ _ := hp); (try dsimp only at hp); (first | have hcm := cm_w hp.1 hag (by omega) (by omega) hI1 (by omega) (by omega) | have hpc : _ = Z1 87 _ := hp.1 | have hmx := hp.1 | skip))
              | (obtain ⟨Z', (o : Nat), rfl, rfl, hI2, hk2, ⟨⟨hp, rfl⟩ | ⟨hp, rfl⟩, -⟩⟩ := hq <;> ((first | have hk3 := kp_to (by first | with_reducible assumption | assumption) (by rfl) hk2 | have hk3 := ks_to (by first | with_reducible assumption | assumption) (by rfl) hk2); clear hk2))
              | (obtain ⟨Z', x, rfl, rfl, hI2, hk2, hp⟩ := hq; (try replace hp : _ ∧ _ := hp); (try dsimp only at hp); (first | have hk3 := kp_to (by first | with_reducible assumption | assumption) (by rfl) hk2 | have hk3 := ks_to (by first | with_reducible assumption | assumption) (by rfl) hk2); clear hk2; (first | have hcm := cm_w hp.1 hag (by omega) (by omega) hI1 (by omega) (by omega) | have hpc : _ = Z1 87 _ := hp.1 | have hmx := hp.1 | skip))
              | (obtain ⟨Z', rfl, rfl, hI2, hk2, hp⟩ := hq; (try replace hp : _ ∧ _ := hp); (try dsimp only at hp); (first | have hk3 := kp_to (by first | with_reducible assumption | assumption) (by rfl) hk2 | have hk3 := ks_to (by first | with_reducible assumption | assumption) (by rfl) hk2); clear hk2; (first | have hcm := cm_w hp.1 hag (by omega) (by omega) hI1 (by omega) (by omega) | have hpc : _ = Z1 87 _ := hp.1 | have hmx := hp.1 | skip))
              | (obtain ⟨rfl, rfl⟩ := hq)
              | (obtain ⟨Z', x, rfl, rfl, hI2, hk2⟩ := hq; have hkn := keeps_nil hk2; clear hk2; subst hkn)
              | (obtain ⟨Z', x, rfl, rfl, hI2, hk2⟩ := hq; (first | have hk3 := kp_to (by first | with_reducible assumption | assumption) (by rfl) hk2 | have hk3 := ks_to (by first | with_reducible assumption | assumption) (by rfl) hk2); clear hk2)
              | (rcases hq with ⟨Z', rfl, rfl, hI2, hk2⟩ | ⟨Z', rfl, rfl, hI2, hk2⟩ <;> ((first | have hk3 := kp_to (by first | with_reducible assumption | assumption) (by rfl) hk2 | have hk3 := ks_to (by first | with_reducible assumption | assumption) (by rfl) hk2); clear hk2))
              | (obtain ⟨Z', rfl, rfl, hI2, hk2⟩ := hq; (first | have hk3 := kp_to (by first | with_reducible assumption | assumption) (by rfl) hk2 | have hk3 := ks_to (by first | with_reducible assumption | assumption) (by rfl) hk2); clear hk2))
           | (intro hc; (try simp only [cmp3_c] at hc); simp only [cmpI] at hc)
           | (show CI _; assumption)
           | intro (_ : Int)
           | intro (Z' : ZT)
           | intro (_ : CI _)
           | (intro (hkk : kp _ _ _))
           | intro (_ : _ ≤ _)
           | (intro (hup : _ = upZ _ _ _ _); (try dsimp only at hup); (first | have f90 : _ = upZ _ 90 _ _ 90 := congrFun hup 90 | have f90 := (up_o hup (by decide)).trans f90 | skip); (first | have f91 : _ = upZ _ 91 _ _ 91 := congrFun hup 91 | have f91 := (up_o hup (by decide)).trans f91 | skip); (try have g91 := (up_o hup (by decide)).trans g91))
           | (intro (hld : _ = _); (try dsimp only at hld); (try simp only [Nat.reduceAdd] at hld); (try have hor := OWR_ld how hld (by omega) (by omega)))
           | intro (_ : _ < _)
           | intro (_ : _ ≠ _)
           | intro (_ : _ ∨ _)))
    all_goals (have lp3 := loop 1000000)
    all_goals first
      | refine hG.2 3 _ [(0, vr 88), (1, vr 2), (2, vr 86), (3, vi a3), (4, vi _)] _ _ rfl ?_
      | skip
    all_goals first
      | with_reducible rfl
      | ((with_reducible show _ = _); rfl)
      | ((with_reducible show recvG _ _); rfl)
      | ((with_reducible show G 3 _ _ _); refine lp3 _ _ ?_ ?_ ?_ ?_; assumption; assumption; (refine ⟨?_, ?_, ?_, ?_, ?_, trivial⟩; (first | done | focus (first | (dsimp only; done) | ((try dsimp only); (first | omega | (refine ⟨?_, ?_⟩ <;> (first | omega | ((try dsimp only); (first | omega | (simp (disch := omega) only [w32_id, w64_id]; omega) | (simp only [w32, w64]; omega) | (with_reducible refine (and32_le ?_ ?_).1 <;> omega) | (with_reducible refine (and32_le ?_ ?_).2 <;> omega) | (with_reducible refine (mulR ?_ ?_ ?_ ?_).1 <;> omega) | (with_reducible refine (mulR ?_ ?_ ?_ ?_).2 <;> omega) | (simp only [w32, w64] at *; omega) | (simp (disch := omega) only [w32_id, w64_id] at *; omega) | (simp (disch := omega) only [tdiv_nn, tmod_nn, w32_id, w64_id] at *; omega) | (subst_vars; simp [upZ] at *; omega) | (subst_vars; simp [upZ] at *; simp only [w32, w64] at *; omega))) | fail)) | (first | omega | ((try dsimp only); (first | omega | (simp (disch := omega) only [w32_id, w64_id]; omega) | (simp only [w32, w64]; omega) | (with_reducible refine (and32_le ?_ ?_).1 <;> omega) | (with_reducible refine (and32_le ?_ ?_).2 <;> omega) | (with_reducible refine (mulR ?_ ?_ ?_ ?_).1 <;> omega) | (with_reducible refine (mulR ?_ ?_ ?_ ?_).2 <;> omega) | (simp only [w32, w64] at *; omega) | (simp (disch := omega) only [w32_id, w64_id] at *; omega) | (simp (disch := omega) only [tdiv_nn, tmod_nn, w32_id, w64_id] at *; omega) | (subst_vars; simp [upZ] at *; omega) | (subst_vars; simp [upZ] at *; simp only [w32, w64] at *; omega))) | fail) | fail)))); (first | done | focus (first | (dsimp only; done) | ((try dsimp only); (first | with_reducible assumption | first | omega | (refine ⟨?_, ?_⟩ <;> (first | omega | ((try dsimp only); (first | omega | (simp (disch := omega) only [w32_id, w64_id]; omega) | (simp only [w32, w64]; omega) | (with_reducible refine (and32_le ?_ ?_).1 <;> omega) | (with_reducible refine (and32_le ?_ ?_).2 <;> omega) | (with_reducible refine (mulR ?_ ?_ ?_ ?_).1 <;> omega) | (with_reducible refine (mulR ?_ ?_ ?_ ?_).2 <;> omega) | (simp only [w32, w64] at *; omega) | (simp (disch := omega) only [w32_id, w64_id] at *; omega) | (simp (disch := omega) only [tdiv_nn, tmod_nn, w32_id, w64_id] at *; omega) | (subst_vars; simp [upZ] at *; omega) | (subst_vars; simp [upZ] at *; simp only [w32, w64] at *; omega))) | fail)) | (first | omega | ((try dsimp only); (first | omega | (simp (disch := omega) only [w32_id, w64_id]; omega) | (simp only [w32, w64]; omega) | (with_reducible refine (and32_le ?_ ?_).1 <;> omega) | (with_reducible refine (and32_le ?_ ?_).2 <;> omega) | (with_reducible refine (mulR ?_ ?_ ?_ ?_).1 <;> omega) | (with_reducible refine (mulR ?_ ?_ ?_ ?_).2 <;> omega) | (simp only [w32, w64] at *; omega) | (simp (disch := omega) only [w32_id, w64_id] at *; omega) | (simp (disch := omega) only [tdiv_nn, tmod_nn, w32_id, w64_id] at *; omega) | (subst_vars; simp [upZ] at *; omega) | (subst_vars; simp [upZ] at *; simp only [w32, w64] at *; omega))) | fail) | fail)))); (first | done | focus (first | (dsimp only; done) | ((try dsimp only); ((first | exact q2 | (rw [← hen0]; refine AG_w hag f90 (by simp (disch := omega) only [w32_id]; omega) ?_ hN36 (by omega) (by first | omega | (simp (disch := omega) only [w32_id]; first | done | omega)); (first | exact en_1 hfg (by assumption) (by omega) (by assumption) hpc (by omega) | exact en_2 hfg (by assumption) (by omega) (by assumption) hpc (by omega) hcm hmx)) | fail))))); (first | done | focus (first | (dsimp only; done) | ((try dsimp only); ((first | exact q3 | (rw [← hen0]; refine FG_w hfg f91 g91 ?_ ?_ (by omega) (by first | omega | (simp (disch := omega) only [w32_id]; first | done | omega)); (show _ = (Z1 89 _).toNat; congr 1; first | assumption | omega); (first | exact en_1 hfg (by assumption) (by omega) (by assumption) hpc (by omega) | exact en_2 hfg (by assumption) (by omega) (by assumption) hpc (by omega) hcm hmx)) | fail))))); (first | done | focus (first | (dsimp only; done) | ((try dsimp only); ((first | exact fun _ _ => rfl | exact L36 w4 f90 (by simp (disch := omega) only [w32_id]; omega) | fail)))))); (first | omega | ((try dsimp only); (first | omega | (simp (disch := omega) only [w32_id, w64_id]; omega) | (simp only [w32, w64]; omega) | (with_reducible refine (and32_le ?_ ?_).1 <;> omega) | (with_reducible refine (and32_le ?_ ?_).2 <;> omega) | (with_reducible refine (mulR ?_ ?_ ?_ ?_).1 <;> omega) | (with_reducible refine (mulR ?_ ?_ ?_ ?_).2 <;> omega) | (simp only [w32, w64] at *; omega) | (simp (disch := omega) only [w32_id, w64_id] at *; omega) | (simp (disch := omega) only [tdiv_nn, tmod_nn, w32_id, w64_id] at *; omega) | (subst_vars; simp [upZ] at *; omega) | (subst_vars; simp [upZ] at *; simp only [w32, w64] at *; omega))) | fail))
      | with_reducible exact trivial
      | with_reducible assumption
      | (refine Exists.intro _ (And.intro rfl (And.intro rfl ?_)); refine ⟨by assumption, by assumption, ?_⟩; (refine ⟨?_, ?_, ?_, trivial⟩; (first | done | focus (first | (dsimp only; done) | ((try dsimp only); (((have e : v4 = Z 2 2 := by omega); subst e; rw [show a3.toNat = (a3 - 1).toNat + 1 by omega]; exact AG_S w2 rfl))))); (first | done | focus (first | (dsimp only; done) | ((try dsimp only); (((have e : v4 = Z 2 2 := by omega); subst e; rw [show a3.toNat = (a3 - 1).toNat + 1 by omega]; exact w3))))); (first | done | focus (first | (dsimp only; done) | ((try dsimp only); (exact w4))))))
      | (refine Exists.intro _ (And.intro rfl (And.intro rfl ?_)); refine ⟨by assumption, by assumption, ?_⟩; simp only [Nat.reduceAdd] at *; (refine ⟨?_, ?_, ?_, trivial⟩; (first | done | focus (first | (dsimp only; done) | ((try dsimp only); (((have e : v4 = Z 2 2 := by omega); subst e; rw [show a3.toNat = (a3 - 1).toNat + 1 by omega]; exact AG_S w2 rfl))))); (first | done | focus (first | (dsimp only; done) | ((try dsimp only); (((have e : v4 = Z 2 2 := by omega); subst e; rw [show a3.toNat = (a3 - 1).toNat + 1 by omega]; exact w3))))); (first | done | focus (first | (dsimp only; done) | ((try dsimp only); (exact w4))))))
      | omega
      | (dsimp only; omega)
      | decide
      | (show (0 : Int) < _; omega)
      | (show (0 : Int) < _; simp only [w64] at *; omega)
      | (simp only [w32, w64] at *; omega)
      | (first | omega | ((try dsimp only); (first | omega | (simp (disch := omega) only [w32_id, w64_id]; omega) | (simp only [w32, w64]; omega) | (with_reducible refine (and32_le ?_ ?_).1 <;> omega) | (with_reducible refine (and32_le ?_ ?_).2 <;> omega) | (with_reducible refine (mulR ?_ ?_ ?_ ?_).1 <;> omega) | (with_reducible refine (mulR ?_ ?_ ?_ ?_).2 <;> omega) | (simp only [w32, w64] at *; omega) | (simp (disch := omega) only [w32_id, w64_id] at *; omega) | (simp (disch := omega) only [tdiv_nn, tmod_nn, w32_id, w64_id] at *; omega) | (subst_vars; simp [upZ] at *; omega) | (subst_vars; simp [upZ] at *; simp only [w32, w64] at *; omega))) | fail)
      | ((with_reducible show swT _ _ _ _); exact trivial)
      | rfl
      | skip
