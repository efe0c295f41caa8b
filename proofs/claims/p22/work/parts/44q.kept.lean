/-! ===== what the model keeps: keep, back, exactly ===== -/
theorem KX_q {Z Zc Z' : ZT} {k a : Int} (hS : SM Z Zc) (hu : Z' = upZ Zc 100 30 a) : (∀ o : Nat, o ≠ 121 → o ≠ 100 → Z' o = Z o) ∧ ∀ q : Nat, q ≠ 30 → Z' 100 q = Z 100 q := by
  refine ⟨fun o h1 h2 => (up_o hu h2).trans (hS o h1), fun q hq => ?_⟩
  rw [hu, up_nk hq]
  exact congrFun (hS 100 (by decide)) q
theorem KX_k {Z Zc Z' : ZT} {k a : Int} (hu : Z' = upZ Zc 100 30 a) (hO : OS Z Zc k) (hK : AL (KWP Z Zc k) (fun _ => True)) (hk : k = Z 100 30) : OS Z Z' (Z 100 30) ∧ AL (KWP Z Z' (Z 100 30)) (fun _ => True) := by
  subst hk
  exact ⟨OS_o (up_o hu (by decide)) hO, KW_o (up_o hu (by decide)) hK⟩
theorem BX_k {Z Zb Z' : ZT} {k a : Int} (hu : Zb = upZ Z 100 30 a) (hK : AL (BWP Zb Z' k) (fun _ => True)) (hk : k = Z 100 30 - 1) : AL (BWP Z Z' (Z 100 30 - 1)) (fun _ => True) := by
  subst hk
  intro i h0 h1 w
  have q := hK i h0 h1 w
  unfold BWP at q ⊢
  rw [q, up_o hu (by decide)]
def s_X11_keepX : Sp := rRI 1 11 (fun as Z => match as with
    | [.inr (.inr a0)] => ((a0 = 100)) ∧ (KB Z) ∧ (E1 Z) ∧ (KE Z) ∧ True
    | _ => False) (fun as => match as with
    | [.inr (.inr a0)] => [8100, 3100, 20100, 101, 103, 104, 105, 106, 107, 108, 109, 110, 111, 112, 113, 114, 115, 116, 121, 31100]
    | _ => []) (fun as Z (x : Int) Z' => match as with
    | [.inr (.inr a0)] => (KB Z') ∧ (E1 Z') ∧ (KE Z') ∧ (x = -3 ∧ Z 100 30 = 2 ∧ Z' 100 30 = 2 ∨ x = Z 100 30 + 1 ∧ Z 100 30 ≤ 1 ∧ Z' 100 30 = Z 100 30 + 1) ∧ (∀ o : Nat, o ≠ 121 → o ≠ 100 → Z' o = Z o) ∧ (∀ q : Nat, q ≠ 30 → Z' 100 q = Z 100 q) ∧ (Z 100 30 = 2 → Z' 121 = Z 121) ∧ (Z 100 30 ≤ 1 → OS Z Z' (Z 100 30) ∧ AL (KWP Z Z' (Z 100 30)) (fun _ => True)) ∧ True
    | _ => False)
set_option maxRecDepth 100000 in
set_option maxHeartbeats 40000000 in
theorem c_X11_keepX {l : Launch} {D : va_G} {cA : Nat → ClassId} : PM l D cA yX11_keep cX11_keep 1 (some .int) 3 75 s_X11_keepX := by
  refine of_X11_keep (c_X11_moveAllPX) ⟨rfl, rfl⟩ (fun as σ hwf hao hpre => ?_)
  obtain ⟨n, Z, R⟩ := σ
  obtain ⟨hR, hI, hpre⟩ := hpre
  obtain rfl : R = R0 := hR
  (try replace hI : CI Z := hI)
  rcases as with _ | ⟨x | x | a0, _ | ⟨v, t⟩⟩ <;> first | exact (hpre : False).elim | skip
  obtain ⟨h0, q0, q1, q2, -⟩ := hpre
  have hk : kp ([8100, 3100, 20100, 101, 103, 104, 105, 106, 107, 108, 109, 110, 111, 112, 113, 114, 115, 116, 121, 31100]) Z Z := kp_refl
  refine ⟨Nat.le_of_ble_eq_true rfl, fun G hG => ?_⟩
  clear hao hwf
  (try dsimp only at q0)
  (try dsimp only at q1)
  (try dsimp only at q2)
  obtain rfl := h0
  refine wq_run hG n R0 [] 900 _ _ _ _ ?_
  repeat' (first
      | with_reducible rfl
      | refine And.intro ?_ ?_
      | with_reducible exact True.intro
      | ((with_reducible show _ = true); rfl)
      | ((with_reducible show recvG _ _); rfl)
      | ((with_reducible show CI _); first | with_reducible assumption | assumption)
      | (fail_if_success (first | (with_reducible show _ ≤ _) | (with_reducible show _ = _) | (with_reducible show _ ∨ _) | (with_reducible show _ < _) | (with_reducible show G _ _ _ _))
         first
         | show G _ _ _ _
         | (refine ld_bnd (by assumption) rfl ?_; intro (x : Int) _ _ hx; (try dsimp only at hx); subst hx)
         | (intro (x : Int) hx; (try dsimp only at hx); subst hx)
         | (refine ld_bnd (by first | with_reducible assumption | assumption) rfl ?_; intro _ _ _ hld; (try dsimp only at hld); (try simp only [Nat.reduceAdd] at hld))
         | (refine st_k (by first | with_reducible assumption | assumption) (by first | with_reducible assumption | assumption) (by first | exact Or.inl (by decide) | exact Or.inr (by decide)) (fun lo hi hb => by first | (cases hb; done) | (cases hb; constructor <;> (first | omega | ((try dsimp only); (first | omega | (simp (disch := omega) only [w32_id, w64_id]; omega) | (simp only [w32, w64]; omega) | (with_reducible refine (and32_le ?_ ?_).1 <;> omega) | (with_reducible refine (and32_le ?_ ?_).2 <;> omega) | (with_reducible refine (mulR ?_ ?_ ?_ ?_).1 <;> omega) | (with_reducible refine (mulR ?_ ?_ ?_ ?_).2 <;> omega) | (simp only [w32, w64] at *; omega) | (simp (disch := omega) only [w32_id, w64_id] at *; omega) | (simp (disch := omega) only [tdiv_nn, tmod_nn, w32_id, w64_id] at *; omega) | (subst_vars; simp [upZ] at *; omega) | (subst_vars; simp [upZ] at *; simp only [w32, w64] at *; omega))) | fail))) ?_; intro Z' _ hkk; intro hld; (try dsimp only at hld); (try simp only [Nat.reduceAdd] at hld); intro hup; (try dsimp only at hup); (first | have := (congrFun (congrFun hup 100) 30).trans (up_ne (by decide)) | have := (congrFun (congrFun hup 100) 30).trans (up_nk (o := 100) (by decide)) | skip); (try have hKB := KB_o (up_o hup (by decide)) (by assumption)); (try have hE := E1_eq (up_o hup (by decide)) (up_o hup (by decide)) (by assumption)))
         | (refine st_k (by first | with_reducible assumption | assumption) (by first | with_reducible assumption | assumption) (by first | exact Or.inl (by decide) | exact Or.inr (by decide)) (fun lo hi hb => ?_) ?_; (cases hb; refine And.intro ?_ ?_))
         | refine st_same ?_
         | (intro (r : Option PV) σ' hq
            first
            | (obtain ⟨rfl, x, rfl, hp⟩ := hq; (try replace hp : _ ∧ _ := hp); (try dsimp only at hp); (try (obtain ⟨hKB, hE, hKS, hKO, hSM, hOS, hKW, -⟩ := hp)))
            | (obtain ⟨Z', (o : Nat), rfl, rfl, hI2, hk2, ⟨⟨hp, rfl⟩ | ⟨hp, rfl⟩, -⟩⟩ := hq <;> ((first | have hk3 := kp_to (by first | with_reducible assumption | assumption) (by rfl) hk2 | have hk3 := ks_to (by first | with_reducible assumption | assumption) (by rfl) hk2); (first | have := kpF 100 30 hk2 (by rfl) | have := ksF 100 30 hk2 (by rfl) | skip); (try dsimp only at this); clear hk2))
            | (obtain ⟨Z', x, rfl, rfl, hI2, hk2, hp⟩ := hq; (try replace hp : _ ∧ _ := hp); (try dsimp only at hp); (first | have hk3 := kp_to (by first | with_reducible assumption | assumption) (by rfl) hk2 | have hk3 := ks_to (by first | with_reducible assumption | assumption) (by rfl) hk2); (first | have := kpF 100 30 hk2 (by rfl) | have := ksF 100 30 hk2 (by rfl) | skip); (try dsimp only at this); clear hk2; (try (obtain ⟨hKB, hE, hKS, hKO, hSM, hOS, hKW, -⟩ := hp)))
            | (obtain ⟨Z', rfl, rfl, hI2, hk2, hp⟩ := hq; (try replace hp : _ ∧ _ := hp); (try dsimp only at hp); (first | have hk3 := kp_to (by first | with_reducible assumption | assumption) (by rfl) hk2 | have hk3 := ks_to (by first | with_reducible assumption | assumption) (by rfl) hk2); (first | have := kpF 100 30 hk2 (by rfl) | have := ksF 100 30 hk2 (by rfl) | skip); (try dsimp only at this); clear hk2; (try (obtain ⟨hKB, hE, hKS, hKO, hSM, hOS, hKW, -⟩ := hp)))
            | (obtain ⟨rfl, rfl⟩ := hq)
            | (obtain ⟨Z', x, rfl, rfl, hI2, hk2⟩ := hq; have hkn := keeps_nil hk2; clear hk2; subst hkn)
            | (obtain ⟨Z', x, rfl, rfl, hI2, hk2⟩ := hq; (first | have hk3 := kp_to (by first | with_reducible assumption | assumption) (by rfl) hk2 | have hk3 := ks_to (by first | with_reducible assumption | assumption) (by rfl) hk2); (first | have := kpF 100 30 hk2 (by rfl) | have := ksF 100 30 hk2 (by rfl) | skip); (try dsimp only at this); clear hk2)
            | (rcases hq with ⟨Z', rfl, rfl, hI2, hk2⟩ | ⟨Z', rfl, rfl, hI2, hk2⟩ <;> ((first | have hk3 := kp_to (by first | with_reducible assumption | assumption) (by rfl) hk2 | have hk3 := ks_to (by first | with_reducible assumption | assumption) (by rfl) hk2); (first | have := kpF 100 30 hk2 (by rfl) | have := ksF 100 30 hk2 (by rfl) | skip); (try dsimp only at this); clear hk2))
            | (obtain ⟨Z', rfl, rfl, hI2, hk2⟩ := hq; (first | have hk3 := kp_to (by first | with_reducible assumption | assumption) (by rfl) hk2 | have hk3 := ks_to (by first | with_reducible assumption | assumption) (by rfl) hk2); (first | have := kpF 100 30 hk2 (by rfl) | have := ksF 100 30 hk2 (by rfl) | skip); (try dsimp only at this); clear hk2))
         | (intro hc; (try simp only [cmp3_c] at hc); simp only [cmpI] at hc)
         | (show CI _; assumption)
         | intro (_ : Int)
         | intro (Z' : ZT)
         | intro (_ : CI _)
         | (intro (hkk : kp _ _ _))
         | intro (_ : _ ≤ _)
         | (intro (hup : _ = upZ _ _ _ _); (try dsimp only at hup); (first | have := (congrFun (congrFun hup 100) 30).trans (up_ne (by decide)) | have := (congrFun (congrFun hup 100) 30).trans (up_nk (o := 100) (by decide)) | skip); (try have hKB := KB_o (up_o hup (by decide)) (by assumption)); (try have hE := E1_eq (up_o hup (by decide)) (up_o hup (by decide)) (by assumption)))
         | (intro (hld : _ = _); (try dsimp only at hld); (try simp only [Nat.reduceAdd] at hld))
         | intro (_ : _ < _)
         | intro (_ : _ ≠ _)
         | intro (_ : _ ∨ _)))
  all_goals first
    | with_reducible rfl
    | ((with_reducible show _ = _); rfl)
    | ((with_reducible show recvG _ _); rfl)
    | with_reducible exact trivial
    | with_reducible assumption
    | ((fail_if_success (first | (with_reducible show _ ≤ _) | (with_reducible show _ = _) | (with_reducible show _ ∨ _) | (with_reducible show _ < _) | (with_reducible show G _ _ _ _))); (refine Exists.intro _ (Exists.intro _ (And.intro rfl (And.intro rfl ?_))); refine ⟨by assumption, by assumption, ?_⟩; (refine ⟨?_, ?_, ?_, ?_, ?_, ?_, ?_, ?_, trivial⟩; (first | done | focus (first | (dsimp only; done) | ((try dsimp only); ((first | with_reducible assumption | exact KB_o (by assumption) (by assumption) | fail))))); (first | done | focus (first | (dsimp only; done) | ((try dsimp only); ((first | with_reducible assumption | exact E1_eq (by assumption) (by assumption) (by assumption) | fail))))); (first | done | focus (first | (dsimp only; done) | ((try dsimp only); ((first | with_reducible assumption | (refine KE_k (by assumption) (by assumption) (by assumption) hup ?_ rfl ?_ ?_ <;> (first | omega | (simp (disch := omega) only [w32_id]; first | done | omega))) | fail))))); (first | done | focus (first | (dsimp only; done) | ((try dsimp only); (first | omega | with_reducible assumption | with_reducible rfl | (first | omega | ((try dsimp only); (first | omega | (simp (disch := omega) only [w32_id, w64_id]; omega) | (simp only [w32, w64]; omega) | (with_reducible refine (and32_le ?_ ?_).1 <;> omega) | (with_reducible refine (and32_le ?_ ?_).2 <;> omega) | (with_reducible refine (mulR ?_ ?_ ?_ ?_).1 <;> omega) | (with_reducible refine (mulR ?_ ?_ ?_ ?_).2 <;> omega) | (simp only [w32, w64] at *; omega) | (simp (disch := omega) only [w32_id, w64_id] at *; omega) | (simp (disch := omega) only [tdiv_nn, tmod_nn, w32_id, w64_id] at *; omega) | (subst_vars; simp [upZ] at *; omega) | (subst_vars; simp [upZ] at *; simp only [w32, w64] at *; omega))) | fail) | fail)))); (first | done | focus (first | (dsimp only; done) | ((try dsimp only); ((first | (exact fun _ _ _ => rfl) | exact (KX_q (k := 0) hSM hup).1 | fail))))); (first | done | focus (first | (dsimp only; done) | ((try dsimp only); ((first | (exact fun _ _ => rfl) | exact (KX_q (k := 0) hSM hup).2 | fail))))); (first | done | focus (first | (dsimp only; done) | ((try dsimp only); ((first | (intro hz; exfalso; omega) | (intro _; rfl) | fail))))); (first | done | focus (first | (dsimp only; done) | ((try dsimp only); ((first | (intro hz; exfalso; omega) | (intro _; exact KX_k hup hOS hKW rfl) | (intro _; exact KX_k hup hOS hKW (by omega)) | fail))))))))
    | ((fail_if_success (first | (with_reducible show _ ≤ _) | (with_reducible show _ = _) | (with_reducible show _ ∨ _) | (with_reducible show _ < _) | (with_reducible show G _ _ _ _))); (refine Exists.intro _ (Exists.intro _ (And.intro rfl (And.intro rfl ?_))); refine ⟨by assumption, by assumption, ?_⟩; simp only [Nat.reduceAdd] at *; (refine ⟨?_, ?_, ?_, ?_, ?_, ?_, ?_, ?_, trivial⟩; (first | done | focus (first | (dsimp only; done) | ((try dsimp only); ((first | with_reducible assumption | exact KB_o (by assumption) (by assumption) | fail))))); (first | done | focus (first | (dsimp only; done) | ((try dsimp only); ((first | with_reducible assumption | exact E1_eq (by assumption) (by assumption) (by assumption) | fail))))); (first | done | focus (first | (dsimp only; done) | ((try dsimp only); ((first | with_reducible assumption | (refine KE_k (by assumption) (by assumption) (by assumption) hup ?_ rfl ?_ ?_ <;> (first | omega | (simp (disch := omega) only [w32_id]; first | done | omega))) | fail))))); (first | done | focus (first | (dsimp only; done) | ((try dsimp only); (first | omega | with_reducible assumption | with_reducible rfl | (first | omega | ((try dsimp only); (first | omega | (simp (disch := omega) only [w32_id, w64_id]; omega) | (simp only [w32, w64]; omega) | (with_reducible refine (and32_le ?_ ?_).1 <;> omega) | (with_reducible refine (and32_le ?_ ?_).2 <;> omega) | (with_reducible refine (mulR ?_ ?_ ?_ ?_).1 <;> omega) | (with_reducible refine (mulR ?_ ?_ ?_ ?_).2 <;> omega) | (simp only [w32, w64] at *; omega) | (simp (disch := omega) only [w32_id, w64_id] at *; omega) | (simp (disch := omega) only [tdiv_nn, tmod_nn, w32_id, w64_id] at *; omega) | (subst_vars; simp [upZ] at *; omega) | (subst_vars; simp [upZ] at *; simp only [w32, w64] at *; omega))) | fail) | fail)))); (first | done | focus (first | (dsimp only; done) | ((try dsimp only); ((first | (exact fun _ _ _ => rfl) | exact (KX_q (k := 0) hSM hup).1 | fail))))); (first | done | focus (first | (dsimp only; done) | ((try dsimp only); ((first | (exact fun _ _ => rfl) | exact (KX_q (k := 0) hSM hup).2 | fail))))); (first | done | focus (first | (dsimp only; done) | ((try dsimp only); ((first | (intro hz; exfalso; omega) | (intro _; rfl) | fail))))); (first | done | focus (first | (dsimp only; done) | ((try dsimp only); ((first | (intro hz; exfalso; omega) | (intro _; exact KX_k hup hOS hKW rfl) | (intro _; exact KX_k hup hOS hKW (by omega)) | fail))))))))
    | omega
    | (dsimp only; omega)
    | decide
    | (show (0 : Int) < _; omega)
    | (show (0 : Int) < _; simp only [w64] at *; omega)
    | (simp only [w32, w64] at *; omega)
    | (first | omega | ((try dsimp only); (first | omega | (simp (disch := omega) only [w32_id, w64_id]; omega) | (simp only [w32, w64]; omega) | (with_reducible refine (and32_le ?_ ?_).1 <;> omega) | (with_reducible refine (and32_le ?_ ?_).2 <;> omega) | (with_reducible refine (mulR ?_ ?_ ?_ ?_).1 <;> omega) | (with_reducible refine (mulR ?_ ?_ ?_ ?_).2 <;> omega) | (simp only [w32, w64] at *; omega) | (simp (disch := omega) only [w32_id, w64_id] at *; omega) | (simp (disch := omega) only [tdiv_nn, tmod_nn, w32_id, w64_id] at *; omega) | (subst_vars; simp [upZ] at *; omega) | (subst_vars; simp [upZ] at *; simp only [w32, w64] at *; omega))) | fail)
    | ((with_reducible show swT _ _ _ _); exact trivial)
    | rfl
    | skip
def s_X11_backX : Sp := rRI 1 11 (fun as Z => match as with
    | [.inr (.inr a0)] => ((a0 = 100)) ∧ (KB Z) ∧ (E1 Z) ∧ (KE Z) ∧ True
    | _ => False) (fun as => match as with
    | [.inr (.inr a0)] => [8100, 3100, 20100, 101, 103, 104, 105, 106, 107, 108, 109, 110, 111, 112, 113, 114, 115, 116, 121, 31100]
    | _ => []) (fun as Z (x : Int) Z' => match as with
    | [.inr (.inr a0)] => (KB Z') ∧ (E1 Z') ∧ (KE Z') ∧ (x = -2 ∧ Z 100 30 = 0 ∧ Z' 100 30 = 0 ∨ x = Z 100 30 - 1 ∧ 1 ≤ Z 100 30 ∧ Z' 100 30 = Z 100 30 - 1) ∧ (Z' 121 = Z 121) ∧ (Z 100 30 = 0 → ∀ o : Nat, Z' o = Z o) ∧ (1 ≤ Z 100 30 → AL (BWP Z Z' (Z 100 30 - 1)) (fun _ => True)) ∧ True
    | _ => False)
set_option maxRecDepth 100000 in
set_option maxHeartbeats 40000000 in
theorem c_X11_backX {l : Launch} {D : va_G} {cA : Nat → ClassId} : PM l D cA yX11_back cX11_back 1 (some .int) 3 75 s_X11_backX := by
  refine of_X11_back (c_X11_moveAllBX) ⟨rfl, rfl⟩ (fun as σ hwf hao hpre => ?_)
  obtain ⟨n, Z, R⟩ := σ
  obtain ⟨hR, hI, hpre⟩ := hpre
  obtain rfl : R = R0 := hR
  (try replace hI : CI Z := hI)
  rcases as with _ | ⟨x | x | a0, _ | ⟨v, t⟩⟩ <;> first | exact (hpre : False).elim | skip
  obtain ⟨h0, q0, q1, q2, -⟩ := hpre
  have hk : kp ([8100, 3100, 20100, 101, 103, 104, 105, 106, 107, 108, 109, 110, 111, 112, 113, 114, 115, 116, 121, 31100]) Z Z := kp_refl
  refine ⟨Nat.le_of_ble_eq_true rfl, fun G hG => ?_⟩
  clear hao hwf
  (try dsimp only at q0)
  (try dsimp only at q1)
  (try dsimp only at q2)
  obtain rfl := h0
  have e121 : Z 121 = Z 121 := rfl
  refine wq_run hG n R0 [] 900 _ _ _ _ ?_
  repeat' (first
      | with_reducible rfl
      | refine And.intro ?_ ?_
      | with_reducible exact True.intro
      | ((with_reducible show _ = true); rfl)
      | ((with_reducible show recvG _ _); rfl)
      | ((with_reducible show CI _); first | with_reducible assumption | assumption)
      | (fail_if_success (first | (with_reducible show _ ≤ _) | (with_reducible show _ = _) | (with_reducible show _ ∨ _) | (with_reducible show _ < _) | (with_reducible show G _ _ _ _))
         first
         | show G _ _ _ _
         | ((with_reducible show KSn _ _ _); refine KE_b (by assumption) (by assumption) ?_ ?_ <;> (first | omega | (simp (disch := omega) only [w32_id]; first | done | omega)))
         | (refine ld_bnd (by assumption) rfl ?_; intro (x : Int) _ _ hx; (try dsimp only at hx); subst hx)
         | (intro (x : Int) hx; (try dsimp only at hx); subst hx)
         | (refine ld_bnd (by first | with_reducible assumption | assumption) rfl ?_; intro _ _ _ hld; (try dsimp only at hld); (try simp only [Nat.reduceAdd] at hld))
         | (refine st_k (by first | with_reducible assumption | assumption) (by first | with_reducible assumption | assumption) (by first | exact Or.inl (by decide) | exact Or.inr (by decide)) (fun lo hi hb => by first | (cases hb; done) | (cases hb; constructor <;> (first | omega | ((try dsimp only); (first | omega | (simp (disch := omega) only [w32_id, w64_id]; omega) | (simp only [w32, w64]; omega) | (with_reducible refine (and32_le ?_ ?_).1 <;> omega) | (with_reducible refine (and32_le ?_ ?_).2 <;> omega) | (with_reducible refine (mulR ?_ ?_ ?_ ?_).1 <;> omega) | (with_reducible refine (mulR ?_ ?_ ?_ ?_).2 <;> omega) | (simp only [w32, w64] at *; omega) | (simp (disch := omega) only [w32_id, w64_id] at *; omega) | (simp (disch := omega) only [tdiv_nn, tmod_nn, w32_id, w64_id] at *; omega) | (subst_vars; simp [upZ] at *; omega) | (subst_vars; simp [upZ] at *; simp only [w32, w64] at *; omega))) | fail))) ?_; intro Z' _ hkk; intro hld; (try dsimp only at hld); (try simp only [Nat.reduceAdd] at hld); intro hup; (try dsimp only at hup); (first | have := (congrFun (congrFun hup 100) 30).trans (up_ne (by decide)) | have := (congrFun (congrFun hup 100) 30).trans (up_nk (o := 100) (by decide)) | skip); (try have e121 := (up_o hup (by decide)).trans e121); (try simp (disch := omega) only [w32_id] at hld); (try have hKB := KB_o (up_o hup (by decide)) (by assumption)); (try have hE := E1_eq (up_o hup (by decide)) (up_o hup (by decide)) (by assumption)))
         | (refine st_k (by first | with_reducible assumption | assumption) (by first | with_reducible assumption | assumption) (by first | exact Or.inl (by decide) | exact Or.inr (by decide)) (fun lo hi hb => ?_) ?_; (cases hb; refine And.intro ?_ ?_))
         | refine st_same ?_
         | (intro (r : Option PV) σ' hq
            first
            | (obtain ⟨rfl, x, rfl, hp⟩ := hq; (try replace hp : _ ∧ _ := hp); (try dsimp only at hp); (try (obtain ⟨hKB, hE, hq1, hBW, -⟩ := hp; have e121 := hq1.trans e121)))
            | (obtain ⟨Z', (o : Nat), rfl, rfl, hI2, hk2, ⟨⟨hp, rfl⟩ | ⟨hp, rfl⟩, -⟩⟩ := hq <;> ((first | have hk3 := kp_to (by first | with_reducible assumption | assumption) (by rfl) hk2 | have hk3 := ks_to (by first | with_reducible assumption | assumption) (by rfl) hk2); (first | have e121 := (kp_av (o := 121) hk2 (by rfl) (by decide)).trans e121 | skip); (first | have := kpF 100 30 hk2 (by rfl) | have := ksF 100 30 hk2 (by rfl) | skip); (try dsimp only at this); clear hk2))
            | (obtain ⟨Z', x, rfl, rfl, hI2, hk2, hp⟩ := hq; (try replace hp : _ ∧ _ := hp); (try dsimp only at hp); (first | have hk3 := kp_to (by first | with_reducible assumption | assumption) (by rfl) hk2 | have hk3 := ks_to (by first | with_reducible assumption | assumption) (by rfl) hk2); (first | have e121 := (kp_av (o := 121) hk2 (by rfl) (by decide)).trans e121 | skip); (first | have := kpF 100 30 hk2 (by rfl) | have := ksF 100 30 hk2 (by rfl) | skip); (try dsimp only at this); clear hk2; (try (obtain ⟨hKB, hE, hq1, hBW, -⟩ := hp; have e121 := hq1.trans e121)))
            | (obtain ⟨Z', rfl, rfl, hI2, hk2, hp⟩ := hq; (try replace hp : _ ∧ _ := hp); (try dsimp only at hp); (first | have hk3 := kp_to (by first | with_reducible assumption | assumption) (by rfl) hk2 | have hk3 := ks_to (by first | with_reducible assumption | assumption) (by rfl) hk2); (first | have e121 := (kp_av (o := 121) hk2 (by rfl) (by decide)).trans e121 | skip); (first | have := kpF 100 30 hk2 (by rfl) | have := ksF 100 30 hk2 (by rfl) | skip); (try dsimp only at this); clear hk2; (try (obtain ⟨hKB, hE, hq1, hBW, -⟩ := hp; have e121 := hq1.trans e121)))
            | (obtain ⟨rfl, rfl⟩ := hq)
            | (obtain ⟨Z', x, rfl, rfl, hI2, hk2⟩ := hq; have hkn := keeps_nil hk2; clear hk2; subst hkn)
            | (obtain ⟨Z', x, rfl, rfl, hI2, hk2⟩ := hq; (first | have hk3 := kp_to (by first | with_reducible assumption | assumption) (by rfl) hk2 | have hk3 := ks_to (by first | with_reducible assumption | assumption) (by rfl) hk2); (first | have e121 := (kp_av (o := 121) hk2 (by rfl) (by decide)).trans e121 | skip); (first | have := kpF 100 30 hk2 (by rfl) | have := ksF 100 30 hk2 (by rfl) | skip); (try dsimp only at this); clear hk2)
            | (rcases hq with ⟨Z', rfl, rfl, hI2, hk2⟩ | ⟨Z', rfl, rfl, hI2, hk2⟩ <;> ((first | have hk3 := kp_to (by first | with_reducible assumption | assumption) (by rfl) hk2 | have hk3 := ks_to (by first | with_reducible assumption | assumption) (by rfl) hk2); (first | have e121 := (kp_av (o := 121) hk2 (by rfl) (by decide)).trans e121 | skip); (first | have := kpF 100 30 hk2 (by rfl) | have := ksF 100 30 hk2 (by rfl) | skip); (try dsimp only at this); clear hk2))
            | (obtain ⟨Z', rfl, rfl, hI2, hk2⟩ := hq; (first | have hk3 := kp_to (by first | with_reducible assumption | assumption) (by rfl) hk2 | have hk3 := ks_to (by first | with_reducible assumption | assumption) (by rfl) hk2); (first | have e121 := (kp_av (o := 121) hk2 (by rfl) (by decide)).trans e121 | skip); (first | have := kpF 100 30 hk2 (by rfl) | have := ksF 100 30 hk2 (by rfl) | skip); (try dsimp only at this); clear hk2))
         | (intro hc; (try simp only [cmp3_c] at hc); simp only [cmpI] at hc)
         | (show CI _; assumption)
         | intro (_ : Int)
         | intro (Z' : ZT)
         | intro (_ : CI _)
         | (intro (hkk : kp _ _ _))
         | intro (_ : _ ≤ _)
         | (intro (hup : _ = upZ _ _ _ _); (try dsimp only at hup); (first | have := (congrFun (congrFun hup 100) 30).trans (up_ne (by decide)) | have := (congrFun (congrFun hup 100) 30).trans (up_nk (o := 100) (by decide)) | skip); (try have e121 := (up_o hup (by decide)).trans e121); (try simp (disch := omega) only [w32_id] at hld); (try have hKB := KB_o (up_o hup (by decide)) (by assumption)); (try have hE := E1_eq (up_o hup (by decide)) (up_o hup (by decide)) (by assumption)))
         | (intro (hld : _ = _); (try dsimp only at hld); (try simp only [Nat.reduceAdd] at hld))
         | intro (_ : _ < _)
         | intro (_ : _ ≠ _)
         | intro (_ : _ ∨ _)))
  all_goals first
    | with_reducible rfl
    | ((with_reducible show _ = _); rfl)
    | ((with_reducible show recvG _ _); rfl)
    | with_reducible exact trivial
    | with_reducible assumption
    | ((with_reducible show KSn _ _ _); refine KE_b (by assumption) (by assumption) ?_ ?_ <;> (first | omega | (simp (disch := omega) only [w32_id]; first | done | omega)))
    | ((fail_if_success (first | (with_reducible show _ ≤ _) | (with_reducible show _ = _) | (with_reducible show _ ∨ _) | (with_reducible show _ < _) | (with_reducible show G _ _ _ _))); (refine Exists.intro _ (Exists.intro _ (And.intro rfl (And.intro rfl ?_))); refine ⟨by assumption, by assumption, ?_⟩; (refine ⟨?_, ?_, ?_, ?_, ?_, ?_, ?_, trivial⟩; (first | done | focus (first | (dsimp only; done) | ((try dsimp only); ((first | with_reducible assumption | exact KB_o (by assumption) (by assumption) | fail))))); (first | done | focus (first | (dsimp only; done) | ((try dsimp only); ((first | with_reducible assumption | exact E1_eq (by assumption) (by assumption) (by assumption) | fail))))); (first | done | focus (first | (dsimp only; done) | ((try dsimp only); ((first | with_reducible assumption | (refine KE_c (by assumption) (by assumption) ?_; (first | omega | (simp (disch := omega) only [w32_id]; first | done | omega))) | fail))))); (first | done | focus (first | (dsimp only; done) | ((try dsimp only); (first | omega | with_reducible assumption | with_reducible rfl | (first | omega | ((try dsimp only); (first | omega | (simp (disch := omega) only [w32_id, w64_id]; omega) | (simp only [w32, w64]; omega) | (with_reducible refine (and32_le ?_ ?_).1 <;> omega) | (with_reducible refine (and32_le ?_ ?_).2 <;> omega) | (with_reducible refine (mulR ?_ ?_ ?_ ?_).1 <;> omega) | (with_reducible refine (mulR ?_ ?_ ?_ ?_).2 <;> omega) | (simp only [w32, w64] at *; omega) | (simp (disch := omega) only [w32_id, w64_id] at *; omega) | (simp (disch := omega) only [tdiv_nn, tmod_nn, w32_id, w64_id] at *; omega) | (subst_vars; simp [upZ] at *; omega) | (subst_vars; simp [upZ] at *; simp only [w32, w64] at *; omega))) | fail) | fail)))); (first | done | focus (first | (dsimp only; done) | ((try dsimp only); ((first | with_reducible assumption | rfl | fail))))); (first | done | focus (first | (dsimp only; done) | ((try dsimp only); ((first | (intro hz; exfalso; omega) | (intro _ _; rfl) | fail))))); (first | done | focus (first | (dsimp only; done) | ((try dsimp only); ((first | (intro hz; exfalso; omega) | (intro _; exact BX_k (by assumption) hBW (by first | omega | (simp (disch := omega) only [w32_id]; omega))) | fail))))))))
    | ((fail_if_success (first | (with_reducible show _ ≤ _) | (with_reducible show _ = _) | (with_reducible show _ ∨ _) | (with_reducible show _ < _) | (with_reducible show G _ _ _ _))); (refine Exists.intro _ (Exists.intro _ (And.intro rfl (And.intro rfl ?_))); refine ⟨by assumption, by assumption, ?_⟩; simp only [Nat.reduceAdd] at *; (refine ⟨?_, ?_, ?_, ?_, ?_, ?_, ?_, trivial⟩; (first | done | focus (first | (dsimp only; done) | ((try dsimp only); ((first | with_reducible assumption | exact KB_o (by assumption) (by assumption) | fail))))); (first | done | focus (first | (dsimp only; done) | ((try dsimp only); ((first | with_reducible assumption | exact E1_eq (by assumption) (by assumption) (by assumption) | fail))))); (first | done | focus (first | (dsimp only; done) | ((try dsimp only); ((first | with_reducible assumption | (refine KE_c (by assumption) (by assumption) ?_; (first | omega | (simp (disch := omega) only [w32_id]; first | done | omega))) | fail))))); (first | done | focus (first | (dsimp only; done) | ((try dsimp only); (first | omega | with_reducible assumption | with_reducible rfl | (first | omega | ((try dsimp only); (first | omega | (simp (disch := omega) only [w32_id, w64_id]; omega) | (simp only [w32, w64]; omega) | (with_reducible refine (and32_le ?_ ?_).1 <;> omega) | (with_reducible refine (and32_le ?_ ?_).2 <;> omega) | (with_reducible refine (mulR ?_ ?_ ?_ ?_).1 <;> omega) | (with_reducible refine (mulR ?_ ?_ ?_ ?_).2 <;> omega) | (simp only [w32, w64] at *; omega) | (simp (disch := omega) only [w32_id, w64_id] at *; omega) | (simp (disch := omega) only [tdiv_nn, tmod_nn, w32_id, w64_id] at *; omega) | (subst_vars; simp [upZ] at *; omega) | (subst_vars; simp [upZ] at *; simp only [w32, w64] at *; omega))) | fail) | fail)))); (first | done | focus (first | (dsimp only; done) | ((try dsimp only); ((first | with_reducible assumption | rfl | fail))))); (first | done | focus (first | (dsimp only; done) | ((try dsimp only); ((first | (intro hz; exfalso; omega) | (intro _ _; rfl) | fail))))); (first | done | focus (first | (dsimp only; done) | ((try dsimp only); ((first | (intro hz; exfalso; omega) | (intro _; exact BX_k (by assumption) hBW (by first | omega | (simp (disch := omega) only [w32_id]; omega))) | fail))))))))
    | omega
    | (dsimp only; omega)
    | decide
    | (show (0 : Int) < _; omega)
    | (show (0 : Int) < _; simp only [w64] at *; omega)
    | (simp only [w32, w64] at *; omega)
    | (first | omega | ((try dsimp only); (first | omega | (simp (disch := omega) only [w32_id, w64_id]; omega) | (simp only [w32, w64]; omega) | (with_reducible refine (and32_le ?_ ?_).1 <;> omega) | (with_reducible refine (and32_le ?_ ?_).2 <;> omega) | (with_reducible refine (mulR ?_ ?_ ?_ ?_).1 <;> omega) | (with_reducible refine (mulR ?_ ?_ ?_ ?_).2 <;> omega) | (simp only [w32, w64] at *; omega) | (simp (disch := omega) only [w32_id, w64_id] at *; omega) | (simp (disch := omega) only [tdiv_nn, tmod_nn, w32_id, w64_id] at *; omega) | (subst_vars; simp [upZ] at *; omega) | (subst_vars; simp [upZ] at *; simp only [w32, w64] at *; omega))) | fail)
    | ((with_reducible show swT _ _ _ _); exact trivial)
    | rfl
    | skip
