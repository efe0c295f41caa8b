/-! ===== the model's sky once more: what is kept is dropped ===== -/
def s_X11_skyK : Sp := rRI 3 11 (fun as Z => match as with
    | [.inr (.inr a0), .inl a1, .inl a2] => ((a0 = 100)) ∧ (True) ∧ (True) ∧ True
    | _ => False) (fun as => match as with
    | [.inr (.inr a0), .inl a1, .inl a2] => [112, 117, 120, 1100, 2100, 20100, 31100]
    | _ => []) (fun as Z (x : Int) Z' => match as with
    | [.inr (.inr a0), .inl a1, .inl a2] => (x = -1 ∧ ¬(2 ≤ a1 ∧ a1 ≤ 6 ∧ 2 ≤ a2 ∧ a2 ≤ 6) ∨ x = a1 * a2 ∧ (2 ≤ a1 ∧ a1 ≤ 6 ∧ 2 ≤ a2 ∧ a2 ≤ 6)) ∧ (Z' 100 30 = Z 100 30 ∨ Z' 100 30 = 0) ∧ True
    | _ => False)
set_option maxRecDepth 100000 in
set_option maxHeartbeats 40000000 in
theorem c_X11_skyK {l : Launch} {D : va_G} {cA : Nat → ClassId} : PM l D cA yX11_sky cX11_sky 3 (some .int) 2 42 s_X11_skyK := by
  refine of_X11_sky (c_X11_in) ⟨rfl, rfl⟩ (c_X11_begins) ⟨rfl, rfl⟩ (c_X11_cells) ⟨rfl, rfl⟩ (fun as σ hwf hao hpre => ?_)
  obtain ⟨n, Z, R⟩ := σ
  obtain ⟨hR, hI, hpre⟩ := hpre
  obtain rfl : R = R0 := hR
  rcases as with _ | ⟨x | x | a0, _ | ⟨a1 | x | x, _ | ⟨a2 | x | x, _ | ⟨v, t⟩⟩⟩⟩ <;> first | exact (hpre : False).elim | skip
  obtain ⟨k1l, k1u⟩ : okI a1 := hao (vi a1) (by simp)
  obtain ⟨k2l, k2u⟩ : okI a2 := hao (vi a2) (by simp)
  obtain ⟨h0, h1, h2, -⟩ := hpre
  have hk : kp ([112, 117, 120, 1100, 2100, 20100, 31100]) Z Z := kp_refl
  refine ⟨Nat.le_of_ble_eq_true rfl, fun G hG => ?_⟩
  clear hao hwf
  obtain rfl := h0
  refine wq_run hG n R0 [] 900 _ _ _ _ ?_
  repeat' (first
      | refine And.intro ?_ ?_
      | with_reducible rfl
      | refine ld_bnd (by assumption) rfl ?_
      | refine st_k (by assumption) (by assumption) (by first | exact Or.inl (by decide) | exact Or.inr (by decide)) (fun lo hi hb => by first | (cases hb; done) | (cases hb; constructor <;> (first | omega | ((try dsimp only); (first | omega | (refine Or.inr ⟨?_, by omega⟩; rename_i hp; rw [hp.1]; congr 1 <;> omega) | (simp (disch := omega) only [w32_id, w64_id]; omega) | (simp only [w32, w64]; omega) | (with_reducible refine (and32_le ?_ ?_).1 <;> omega) | (with_reducible refine (and32_le ?_ ?_).2 <;> omega) | (with_reducible refine (mulR ?_ ?_ ?_ ?_).1 <;> omega) | (with_reducible refine (mulR ?_ ?_ ?_ ?_).2 <;> omega) | (simp only [w32, w64] at *; omega) | (simp (disch := omega) only [w32_id, w64_id] at *; omega) | (simp (disch := omega) only [tdiv_nn, tmod_nn, w32_id, w64_id] at *; omega) | (subst_vars; simp [upZ] at *; omega) | (subst_vars; simp [upZ] at *; simp only [w32, w64] at *; omega))) | fail))) ?_
      | (refine st_k (by assumption) (by assumption) (by first | exact Or.inl (by decide) | exact Or.inr (by decide)) (fun lo hi hb => ?_) ?_; (cases hb; refine And.intro ?_ ?_))
      | refine st_same ?_
      | (intro (r : Option PV) σ' hq
         first
         | (obtain ⟨rfl, rfl⟩ := hq)
         | (obtain ⟨rfl, x, rfl, hp⟩ := hq; (try replace hp : _ ∧ _ := hp); (try dsimp only at hp))
         | (obtain ⟨Z', (o : Nat), rfl, rfl, hI2, hk2, ⟨⟨hp, rfl⟩ | ⟨hp, rfl⟩, -⟩⟩ := hq <;> ((first | have hk3 := kp_to (by assumption) (by rfl) hk2 | have hk3 := ks_to (by assumption) (by rfl) hk2); (first | have := kpF 100 0 hk2 (by rfl) | have := ksF 100 0 hk2 (by rfl) | skip); (try dsimp only at this); (first | have := kpF 100 1 hk2 (by rfl) | have := ksF 100 1 hk2 (by rfl) | skip); (try dsimp only at this); (first | have := kpF 100 30 hk2 (by rfl) | have := ksF 100 30 hk2 (by rfl) | skip); (try dsimp only at this); clear hk2))
         | (obtain ⟨Z', x, rfl, rfl, hI2, hk2, hp⟩ := hq; (try replace hp : _ ∧ _ := hp); (try dsimp only at hp); (first | have hk3 := kp_to (by assumption) (by rfl) hk2 | have hk3 := ks_to (by assumption) (by rfl) hk2); (first | have := kpF 100 0 hk2 (by rfl) | have := ksF 100 0 hk2 (by rfl) | skip); (try dsimp only at this); (first | have := kpF 100 1 hk2 (by rfl) | have := ksF 100 1 hk2 (by rfl) | skip); (try dsimp only at this); (first | have := kpF 100 30 hk2 (by rfl) | have := ksF 100 30 hk2 (by rfl) | skip); (try dsimp only at this); clear hk2)
         | (obtain ⟨Z', x, rfl, rfl, hI2, hk2⟩ := hq; have hkn := keeps_nil hk2; clear hk2; subst hkn)
         | (obtain ⟨Z', x, rfl, rfl, hI2, hk2⟩ := hq; (first | have hk3 := kp_to (by assumption) (by rfl) hk2 | have hk3 := ks_to (by assumption) (by rfl) hk2); (first | have := kpF 100 0 hk2 (by rfl) | have := ksF 100 0 hk2 (by rfl) | skip); (try dsimp only at this); (first | have := kpF 100 1 hk2 (by rfl) | have := ksF 100 1 hk2 (by rfl) | skip); (try dsimp only at this); (first | have := kpF 100 30 hk2 (by rfl) | have := ksF 100 30 hk2 (by rfl) | skip); (try dsimp only at this); clear hk2)
         | (rcases hq with ⟨Z', rfl, rfl, hI2, hk2⟩ | ⟨Z', rfl, rfl, hI2, hk2⟩ <;> ((first | have hk3 := kp_to (by assumption) (by rfl) hk2 | have hk3 := ks_to (by assumption) (by rfl) hk2); (first | have := kpF 100 0 hk2 (by rfl) | have := ksF 100 0 hk2 (by rfl) | skip); (try dsimp only at this); (first | have := kpF 100 1 hk2 (by rfl) | have := ksF 100 1 hk2 (by rfl) | skip); (try dsimp only at this); (first | have := kpF 100 30 hk2 (by rfl) | have := ksF 100 30 hk2 (by rfl) | skip); (try dsimp only at this); clear hk2))
         | (obtain ⟨Z', rfl, rfl, hI2, hk2, hp⟩ := hq; (try replace hp : _ ∧ _ := hp); (try dsimp only at hp); (first | have hk3 := kp_to (by assumption) (by rfl) hk2 | have hk3 := ks_to (by assumption) (by rfl) hk2); (first | have := kpF 100 0 hk2 (by rfl) | have := ksF 100 0 hk2 (by rfl) | skip); (try dsimp only at this); (first | have := kpF 100 1 hk2 (by rfl) | have := ksF 100 1 hk2 (by rfl) | skip); (try dsimp only at this); (first | have := kpF 100 30 hk2 (by rfl) | have := ksF 100 30 hk2 (by rfl) | skip); (try dsimp only at this); clear hk2)
         | (obtain ⟨Z', rfl, rfl, hI2, hk2⟩ := hq; (first | have hk3 := kp_to (by assumption) (by rfl) hk2 | have hk3 := ks_to (by assumption) (by rfl) hk2); (first | have := kpF 100 0 hk2 (by rfl) | have := ksF 100 0 hk2 (by rfl) | skip); (try dsimp only at this); (first | have := kpF 100 1 hk2 (by rfl) | have := ksF 100 1 hk2 (by rfl) | skip); (try dsimp only at this); (first | have := kpF 100 30 hk2 (by rfl) | have := ksF 100 30 hk2 (by rfl) | skip); (try dsimp only at this); clear hk2))
      | (intro hc; (try simp only [cmp3_c] at hc); simp only [cmpI] at hc)
      | (show CI _; assumption)
      | intro (_ : Int)
      | intro (Z' : ZT)
      | intro (_ : CI _)
      | (intro (hkk : kp _ _ _))
      | intro (_ : _ ≤ _)
      | (intro (hup : _ = upZ _ _ _ _); (try dsimp only at hup); (first | have := (congrFun (congrFun hup 100) 0).trans (up_ne (by decide)) | have := (congrFun (congrFun hup 100) 0).trans (up_nk (by decide)) | skip); (first | have := (congrFun (congrFun hup 100) 1).trans (up_ne (by decide)) | have := (congrFun (congrFun hup 100) 1).trans (up_nk (by decide)) | skip); (first | have := (congrFun (congrFun hup 100) 30).trans (up_ne (by decide)) | have := (congrFun (congrFun hup 100) 30).trans (up_nk (by decide)) | skip))
      | (intro (hld : _ = _); (try dsimp only at hld))
      | intro (_ : _ < _)
      | intro (_ : _ ≠ _)
      | intro (_ : _ ∨ _))
  all_goals first
    | with_reducible rfl
    | ((with_reducible show _ = _); rfl)
    | ((with_reducible show recvG _ _); rfl)
    | with_reducible exact trivial
    | with_reducible assumption
    | omega
    | (dsimp only; omega)
    | decide
    | (show (0 : Int) < _; omega)
    | (show (0 : Int) < _; simp only [w64] at *; omega)
    | (simp only [w32, w64] at *; omega)
    | (refine Exists.intro _ (Exists.intro _ (And.intro rfl (And.intro rfl ?_))); refine ⟨by assumption, by assumption, ?_⟩; (refine ⟨?_, ?_, trivial⟩; (first | done | focus (first | (dsimp only; done) | ((try dsimp only); (first | omega | with_reducible assumption | with_reducible rfl | (first | omega | ((try dsimp only); (first | omega | (refine Or.inr ⟨?_, by omega⟩; rename_i hp; rw [hp.1]; congr 1 <;> omega) | (simp (disch := omega) only [w32_id, w64_id]; omega) | (simp only [w32, w64]; omega) | (with_reducible refine (and32_le ?_ ?_).1 <;> omega) | (with_reducible refine (and32_le ?_ ?_).2 <;> omega) | (with_reducible refine (mulR ?_ ?_ ?_ ?_).1 <;> omega) | (with_reducible refine (mulR ?_ ?_ ?_ ?_).2 <;> omega) | (simp only [w32, w64] at *; omega) | (simp (disch := omega) only [w32_id, w64_id] at *; omega) | (simp (disch := omega) only [tdiv_nn, tmod_nn, w32_id, w64_id] at *; omega) | (subst_vars; simp [upZ] at *; omega) | (subst_vars; simp [upZ] at *; simp only [w32, w64] at *; omega))) | fail) | fail)))); (first | done | focus (first | (dsimp only; done) | ((try dsimp only); (first | omega | with_reducible assumption | with_reducible rfl | (first | omega | ((try dsimp only); (first | omega | (refine Or.inr ⟨?_, by omega⟩; rename_i hp; rw [hp.1]; congr 1 <;> omega) | (simp (disch := omega) only [w32_id, w64_id]; omega) | (simp only [w32, w64]; omega) | (with_reducible refine (and32_le ?_ ?_).1 <;> omega) | (with_reducible refine (and32_le ?_ ?_).2 <;> omega) | (with_reducible refine (mulR ?_ ?_ ?_ ?_).1 <;> omega) | (with_reducible refine (mulR ?_ ?_ ?_ ?_).2 <;> omega) | (simp only [w32, w64] at *; omega) | (simp (disch := omega) only [w32_id, w64_id] at *; omega) | (simp (disch := omega) only [tdiv_nn, tmod_nn, w32_id, w64_id] at *; omega) | (subst_vars; simp [upZ] at *; omega) | (subst_vars; simp [upZ] at *; simp only [w32, w64] at *; omega))) | fail) | fail))))))
    | (first | omega | ((try dsimp only); (first | omega | (refine Or.inr ⟨?_, by omega⟩; rename_i hp; rw [hp.1]; congr 1 <;> omega) | (simp (disch := omega) only [w32_id, w64_id]; omega) | (simp only [w32, w64]; omega) | (with_reducible refine (and32_le ?_ ?_).1 <;> omega) | (with_reducible refine (and32_le ?_ ?_).2 <;> omega) | (with_reducible refine (mulR ?_ ?_ ?_ ?_).1 <;> omega) | (with_reducible refine (mulR ?_ ?_ ?_ ?_).2 <;> omega) | (simp only [w32, w64] at *; omega) | (simp (disch := omega) only [w32_id, w64_id] at *; omega) | (simp (disch := omega) only [tdiv_nn, tmod_nn, w32_id, w64_id] at *; omega) | (subst_vars; simp [upZ] at *; omega) | (subst_vars; simp [upZ] at *; simp only [w32, w64] at *; omega))) | fail)
    | ((with_reducible show swT _ _ _ _); exact trivial)
    | rfl
    | skip
