/-! ===== numbers: sum, second, judge, the model's ===== -/
theorem or32_0 {x : Int} (h : 0 ≤ x ∧ x ≤ 1023) : or32 x 0 = x := by
  rw [or32_nat h.1 (by omega) (by decide) (by decide)]
  show ((x.toNat ||| 0 : Nat) : Int) = x
  rw [Nat.or_zero]
  omega
theorem btF_r (f : Nat → Bool) : ∀ n : Nat, n ≤ 4 → 0 ≤ btF f n ∧ btF f n ≤ 1023
  | 0, _ => by
    show (0 : Int) ≤ 0 ∧ (0 : Int) ≤ 1023
    decide
  | n + 1, hn => by
    have ih := btF_r f n (by omega)
    have e : btF f (n + 1) = if f n = true then or32 (btF f n) (shl32 1 (n : Int)) else btF f n := rfl
    have hb : ∀ k : Fin 4, 0 ≤ shl32 1 (k.val : Int) ∧ shl32 1 (k.val : Int) < 1024 := by decide +kernel
    have b := hb ⟨n, by omega⟩
    dsimp only at b
    rw [e]
    split
    · have q := or32_lt (a := btF f n) (b := shl32 1 (n : Int)) (by omega) (by omega) b.1 b.2
      omega
    · exact ih
theorem SOL_mh {Z : ZT} {r : Int} {R : Nat → Int} (h : RWM Z r R) : RWM Z r R := h
theorem envH_w {Z Z1 : ZT} (h : ∀ o, 101 ≤ o → o ≤ 121 → Z1 o = Z o) (h35 : Z1 100 35 = Z 100 0) (h36 : Z1 100 36 = Z 100 1) (h2 : Z1 100 2 = Z 100 2) : envH Z1 = envW Z := envHW_o h h35 h36 h2
def s_X11_secondN : Sp := rRI 3 11 (fun as Z => match as with
    | [.inr (.inr a0), .inl a1, .inl a2] => ((a0 = 100)) ∧ (True) ∧ (True) ∧ (PLH Z) ∧ (NWM Z) ∧ (LNO Z) ∧ (FRM Z) ∧ True
    | _ => False) (fun as => match as with
    | [.inr (.inr a0), .inl a1, .inl a2] => [122, 124, 36100, 37100]
    | _ => []) (fun as Z (x : Int) Z' => match as with
    | [.inr (.inr a0), .inl a1, .inl a2] => (x = -1 ∧ ¬((1 ≤ a1 ∧ a1 ≤ 12) ∧ 0 ≤ a2 ∧ a2 < Z 100 0 * Z 100 1) ∨ ((1 ≤ a1 ∧ a1 ≤ 12) ∧ 0 ≤ a2 ∧ a2 < Z 100 0 * Z 100 1) ∧ ∃ R : Nat → Int, RWM Z 0 R ∧ x = btF (fun l => decide (mkV (envW Z) R a1.toNat a2.toNat l ≠ R (144 * a1.toNat + 4 * a2.toNat + l))) 4) ∧ True
    | _ => False)
set_option maxRecDepth 100000 in
set_option maxHeartbeats 40000000 in
theorem c_X11_secondN {l : Launch} {D : va_G} {cA : Nat → ClassId} : PM l D cA yX11_second cX11_second 5 (some .int) 6 160 s_X11_secondN := by
  refine of_X11_second (c_X11_in) ⟨rfl, rfl⟩ (c_X11_isCell) ⟨rfl, rfl⟩ (c_X11_allN) ⟨rfl, rfl⟩ (c_X11_hallN) ⟨rfl, rfl⟩ (c_X11_madeN) ⟨rfl, rfl⟩ (c_X11_place) ⟨rfl, rfl⟩ (fun as σ hwf hao hpre => ?_)
  obtain ⟨n, Z, R⟩ := σ
  obtain ⟨hR, hI, hpre⟩ := hpre
  obtain rfl : R = R0 := hR
  (try replace hI : CI Z := hI)
  rcases as with _ | ⟨x | x | a0, _ | ⟨a1 | x | x, _ | ⟨a2 | x | x, _ | ⟨v, t⟩⟩⟩⟩ <;> first | exact (hpre : False).elim | skip
  obtain ⟨k1l, k1u⟩ : okI a1 := hao (vi a1) (by simp)
  obtain ⟨k2l, k2u⟩ : okI a2 := hao (vi a2) (by simp)
  obtain ⟨h0, h1, h2, q0, q1, q2, q3, -⟩ := hpre
  have hk : kp ([122, 124, 36100, 37100]) Z Z := kp_refl
  refine ⟨Nat.le_of_ble_eq_true rfl, fun G hG => ?_⟩
  clear hao hwf
  (try dsimp only at q0)
  (try dsimp only at q1)
  (try dsimp only at q2)
  (try dsimp only at q3)
  obtain rfl := h0
  have loop : ∀ fuel : Nat, (∀ (Z1 : ZT) (v3 : Int) (v4 : Int), CI Z1 → kp ([122, 124, 36100, 37100]) Z Z1 → ((0 ≤ v4 ∧ v4 ≤ 4) ∧ (RWM Z 0 (Z1 122)) ∧ (v3 = btF (fun l => decide (mkV (envW Z) (Z1 122) a1.toNat a2.toNat l ≠ Z1 122 (144 * a1.toNat + 4 * a2.toNat + l))) v4.toNat) ∧ (((1 ≤ a1 ∧ a1 ≤ 12) ∧ 0 ≤ a2 ∧ a2 < Z 100 0 * Z 100 1)) ∧ (Z1 100 35 = Z 100 0) ∧ (Z1 100 36 = Z 100 1) ∧ True) → 5 - v4 ≤ (fuel : Int) → G 39 [(0, vr 100), (1, vi a1), (2, vi a2), (3, vi v3), (4, vi v4)] [] (n, Z1, R0)) := by
    intro fuel
    induction fuel with
    | zero => exact (by intros; omega)
    | succ fuel ih =>
      have ih39 := ih
      · intro Z1 v3 v4 hI1 hk1 hv hm
        obtain ⟨w0, w1, w2, w3, w4, w5, -⟩ := hv
        clear hk hI
        (have hun : ∀ o, 101 ≤ o → o ≤ 121 → Z1 o = Z o := fun o h1 h2 => kp_out (lo := 101) (hi := 121) hk1 (by rfl) (by decide) o h1 h2)
        have g2 : Z1 100 2 = Z 100 2 := kpF 100 2 hk1 (by rfl)
        have g7 : Z1 100 7 = Z 100 7 := kpF 100 7 hk1 (by rfl)
        have g19 : Z1 100 19 = Z 100 19 := kpF 100 19 hk1 (by rfl)
        have g0 : Z1 100 0 = Z 100 0 := kpF 100 0 hk1 (by rfl)
        have g1 : Z1 100 1 = Z 100 1 := kpF 100 1 hk1 (by rfl)
        have hcl := tl_cells hI1
        have hNN : Z1 100 0 * Z1 100 1 = Z 100 0 * Z 100 1 := by rw [g0, g1]
        have qw0 : 2 ≤ Z1 100 0 ∧ Z1 100 0 ≤ 6 := hI1 100 0 2 6 rfl
        have qh0 : 2 ≤ Z1 100 1 ∧ Z1 100 1 ≤ 6 := hI1 100 1 2 6 rfl
        have w35 := w4
        have w36 := w5
        (have hbr : v4 ≤ 4 → 0 ≤ v3 ∧ v3 ≤ 1023 := fun z => by (rw [w2]; exact btF_r _ _ (by omega)))
        refine wq_run hG n R0 [39] 900 _ _ _ _ ?_
        repeat' (first
            | with_reducible rfl
            | ((with_reducible show PLH _); first | exact q0 | exact PLH_o (fun o h1 h2 => hun o (by omega) (by omega)) q0)
            | ((with_reducible show LNO _); exact q2)
            | ((with_reducible show FRM _); exact q3)
            | refine And.intro ?_ ?_
            | with_reducible exact True.intro
            | ((with_reducible show _ = true); rfl)
            | ((with_reducible show recvG _ _); rfl)
            | ((with_reducible show CI _); first | with_reducible assumption | assumption)
            | (fail_if_success (first | (with_reducible show _ ≤ _) | (with_reducible show _ = _) | (with_reducible show _ ∨ _) | (with_reducible show _ < _) | (with_reducible show G _ _ _ _))
               first
               | show G _ _ _ _
               | (refine ld_bnd (by first | with_reducible assumption | assumption) rfl ?_; intro _ _ _ hld; (try dsimp only at hld); (try (have hmx : _ = Z1 122 (144 * a1.toNat + 4 * a2.toNat + v4.toNat) := hld.trans (congrArg (Z1 122) (by omega)))))
               | (refine st_k (by first | with_reducible assumption | assumption) (by first | with_reducible assumption | assumption) (by first | exact Or.inl (by decide) | exact Or.inr (by decide)) (fun lo hi hb => by first | (cases hb; done) | (cases hb; constructor <;> (first | omega | ((try dsimp only); (first | omega | (simp (disch := omega) only [w32_id, w64_id]; omega) | (simp only [w32, w64]; omega) | (with_reducible refine (and32_le ?_ ?_).1 <;> omega) | (with_reducible refine (and32_le ?_ ?_).2 <;> omega) | (with_reducible refine (mulR ?_ ?_ ?_ ?_).1 <;> omega) | (with_reducible refine (mulR ?_ ?_ ?_ ?_).2 <;> omega) | (simp only [w32, w64] at *; omega) | (simp (disch := omega) only [w32_id, w64_id] at *; omega) | (simp (disch := omega) only [tdiv_nn, tmod_nn, w32_id, w64_id] at *; omega) | (subst_vars; simp [upZ] at *; omega) | (subst_vars; simp [upZ] at *; simp only [w32, w64] at *; omega))) | fail))) ?_; intro Z' _ hkk; intro hld; (try dsimp only at hld); (try (have hmx : _ = Z1 122 (144 * a1.toNat + 4 * a2.toNat + v4.toNat) := hld.trans (congrArg (Z1 122) (by omega)))); intro hup; (try dsimp only at hup))
               | (refine st_k (by first | with_reducible assumption | assumption) (by first | with_reducible assumption | assumption) (by first | exact Or.inl (by decide) | exact Or.inr (by decide)) (fun lo hi hb => ?_) ?_; (cases hb; refine And.intro ?_ ?_))
               | refine st_same ?_
               | (intro (r : Option PV) σ' hq
                  first
                  | (obtain ⟨rfl, x, rfl, hp⟩ := hq; (try replace hp : _ ∧ _ := hp); (try dsimp only at hp); (first | (have hal : _ = w32 (shl32 1 (Z 100 19) - 1) := hp.1) | (have hha : SOL _ _ _ _ _ _ := hp.2.1; have hwh := hp.1) | (have hm_ : _ = mkV _ _ _ _ _ := hp.1; rw [envH_w hun w35 w36 g2] at hm_) | (have hpl : (_ : Int) = 144 * _ + 4 * _ + _ := hp.1) | skip))
                  | (obtain ⟨Z', (o : Nat), rfl, rfl, hI2, hk2, ⟨⟨hp, rfl⟩ | ⟨hp, rfl⟩, -⟩⟩ := hq <;> ((first | have hk3 := kp_to (by first | with_reducible assumption | assumption) (by rfl) hk2 | have hk3 := ks_to (by first | with_reducible assumption | assumption) (by rfl) hk2); clear hk2))
                  | (obtain ⟨Z', x, rfl, rfl, hI2, hk2, hp⟩ := hq; (try replace hp : _ ∧ _ := hp); (try dsimp only at hp); (first | have hk3 := kp_to (by first | with_reducible assumption | assumption) (by rfl) hk2 | have hk3 := ks_to (by first | with_reducible assumption | assumption) (by rfl) hk2); clear hk2; (first | (have hal : _ = w32 (shl32 1 (Z 100 19) - 1) := hp.1) | (have hha : SOL _ _ _ _ _ _ := hp.2.1; have hwh := hp.1) | (have hm_ : _ = mkV _ _ _ _ _ := hp.1; rw [envH_w hun w35 w36 g2] at hm_) | (have hpl : (_ : Int) = 144 * _ + 4 * _ + _ := hp.1) | skip))
                  | (obtain ⟨Z', rfl, rfl, hI2, hk2, hp⟩ := hq; (try replace hp : _ ∧ _ := hp); (try dsimp only at hp); (first | have hk3 := kp_to (by first | with_reducible assumption | assumption) (by rfl) hk2 | have hk3 := ks_to (by first | with_reducible assumption | assumption) (by rfl) hk2); clear hk2; (first | (have hal : _ = w32 (shl32 1 (Z 100 19) - 1) := hp.1) | (have hha : SOL _ _ _ _ _ _ := hp.2.1; have hwh := hp.1) | (have hm_ : _ = mkV _ _ _ _ _ := hp.1; rw [envH_w hun w35 w36 g2] at hm_) | (have hpl : (_ : Int) = 144 * _ + 4 * _ + _ := hp.1) | skip))
                  | (obtain ⟨rfl, rfl⟩ := hq)
                  | (obtain ⟨Z', x, rfl, rfl, hI2, hk2⟩ := hq; have hkn := keeps_nil hk2; clear hk2; subst hkn)
                  | (obtain ⟨Z', x, rfl, rfl, hI2, hk2⟩ := hq; (first | have hk3 := kp_to (by first | with_reducible assumption | assumption) (by rfl) hk2 | have hk3 := ks_to (by first | with_reducible assumption | assumption) (by rfl) hk2); clear hk2)
                  | (rcases hq with ⟨Z', rfl, rfl, hI2, hk2⟩ | ⟨Z', rfl, rfl, hI2, hk2⟩ <;> ((first | have hk3 := kp_to (by first | with_reducible assumption | assumption) (by rfl) hk2 | have hk3 := ks_to (by first | with_reducible assumption | assumption) (by rfl) hk2); clear hk2))
                  | (obtain ⟨Z', rfl, rfl, hI2, hk2⟩ := hq; (first | have hk3 := kp_to (by first | with_reducible assumption | assumption) (by rfl) hk2 | have hk3 := ks_to (by first | with_reducible assumption | assumption) (by rfl) hk2); clear hk2))
               | (intro hc; (try simp only [cmp3_c] at hc); simp only [cmpI] at hc)
               | (show CI _; assumption)
               | intro (_ : Int)
               | intro (Z' : ZT)
               | intro (_ : CI _)
               | (intro (hkk : kp _ _ _))
               | intro (_ : _ ≤ _)
               | (intro (hup : _ = upZ _ _ _ _); (try dsimp only at hup))
               | (intro (hld : _ = _); (try dsimp only at hld); (try (have hmx : _ = Z1 122 (144 * a1.toNat + 4 * a2.toNat + v4.toNat) := hld.trans (congrArg (Z1 122) (by omega)))))
               | intro (_ : _ < _)
               | intro (_ : _ ≠ _)
               | intro (_ : _ ∨ _)))
        all_goals first
          | ((with_reducible show G 39 _ _ _); refine hG.2 39 _ [(0, vr 100), (1, vi a1), (2, vi a2), (3, vi _), (4, vi _)] _ _ rfl ?_)
          | ((fail_if_success (first | (with_reducible show _ ≤ _) | (with_reducible show _ = _) | (with_reducible show _ ∨ _) | (with_reducible show _ < _))); first | refine hG.2 39 _ [(0, vr 100), (1, vi a1), (2, vi a2), (3, vi _), (4, vi _)] _ _ rfl ?_)
          | skip
        all_goals first
          | with_reducible rfl
          | ((with_reducible show _ = _); rfl)
          | ((with_reducible show recvG _ _); rfl)
          | ((with_reducible show G 39 _ _ _); refine ih39 _ _ _ ?_ ?_ ?_ ?_; assumption; assumption; (refine ⟨?_, ?_, ?_, ?_, ?_, ?_, trivial⟩; (first | done | focus (first | (dsimp only; done) | ((try dsimp only); (first | omega | (refine ⟨?_, ?_⟩ <;> (first | omega | ((try dsimp only); (first | omega | (simp (disch := omega) only [w32_id, w64_id]; omega) | (simp only [w32, w64]; omega) | (with_reducible refine (and32_le ?_ ?_).1 <;> omega) | (with_reducible refine (and32_le ?_ ?_).2 <;> omega) | (with_reducible refine (mulR ?_ ?_ ?_ ?_).1 <;> omega) | (with_reducible refine (mulR ?_ ?_ ?_ ?_).2 <;> omega) | (simp only [w32, w64] at *; omega) | (simp (disch := omega) only [w32_id, w64_id] at *; omega) | (simp (disch := omega) only [tdiv_nn, tmod_nn, w32_id, w64_id] at *; omega) | (subst_vars; simp [upZ] at *; omega) | (subst_vars; simp [upZ] at *; simp only [w32, w64] at *; omega))) | fail)) | (first | omega | ((try dsimp only); (first | omega | (simp (disch := omega) only [w32_id, w64_id]; omega) | (simp only [w32, w64]; omega) | (with_reducible refine (and32_le ?_ ?_).1 <;> omega) | (with_reducible refine (and32_le ?_ ?_).2 <;> omega) | (with_reducible refine (mulR ?_ ?_ ?_ ?_).1 <;> omega) | (with_reducible refine (mulR ?_ ?_ ?_ ?_).2 <;> omega) | (simp only [w32, w64] at *; omega) | (simp (disch := omega) only [w32_id, w64_id] at *; omega) | (simp (disch := omega) only [tdiv_nn, tmod_nn, w32_id, w64_id] at *; omega) | (subst_vars; simp [upZ] at *; omega) | (subst_vars; simp [upZ] at *; simp only [w32, w64] at *; omega))) | fail) | fail)))); (first | done | focus (first | (dsimp only; done) | ((try dsimp only); ((first | with_reducible assumption | exact RWM_0 hIZ (by omega) hha | exact RWM_1 hIZ (by omega) hal hha | exact RWM_1 hIZ rfl hal hha | fail))))); (first | done | focus (first | (dsimp only; done) | ((try dsimp only); ((first | exact rfl | (refine bt_y w2 (decide_eq_true ?_) rfl (by omega) (by first | omega | (simp (disch := omega) only [w32_id]; first | done | omega)); (rw [← hm_, ← hmx]; omega)) | (rw [or32_0 (hbr (by omega))]; refine bt_n w2 (decide_eq_false ?_) (by omega) (by first | omega | (simp (disch := omega) only [w32_id]; first | done | omega)); (rw [← hm_, ← hmx]; omega)) | fail))))); (first | done | focus (first | (dsimp only; done) | ((try dsimp only); ((first | assumption | (refine ⟨⟨?_, ?_⟩, ?_, ?_⟩ <;> omega) | fail))))); (first | done | focus (first | (dsimp only; done) | ((try dsimp only); ((first | exact hwh.1 | omega))))); (first | done | focus (first | (dsimp only; done) | ((try dsimp only); ((first | exact hwh.2 | omega)))))); (first | omega | ((try dsimp only); (first | omega | (simp (disch := omega) only [w32_id, w64_id]; omega) | (simp only [w32, w64]; omega) | (with_reducible refine (and32_le ?_ ?_).1 <;> omega) | (with_reducible refine (and32_le ?_ ?_).2 <;> omega) | (with_reducible refine (mulR ?_ ?_ ?_ ?_).1 <;> omega) | (with_reducible refine (mulR ?_ ?_ ?_ ?_).2 <;> omega) | (simp only [w32, w64] at *; omega) | (simp (disch := omega) only [w32_id, w64_id] at *; omega) | (simp (disch := omega) only [tdiv_nn, tmod_nn, w32_id, w64_id] at *; omega) | (subst_vars; simp [upZ] at *; omega) | (subst_vars; simp [upZ] at *; simp only [w32, w64] at *; omega))) | fail))
          | with_reducible exact trivial
          | with_reducible assumption
          | ((with_reducible show NWM _); exact q1)
          | ((with_reducible show _ < _); (try dsimp only); (rw [w35, w36]); omega)
          | ((fail_if_success (first | (with_reducible show _ ≤ _) | (with_reducible show _ = _) | (with_reducible show _ ∨ _) | (with_reducible show _ < _) | (with_reducible show G _ _ _ _))); (refine Exists.intro _ (Exists.intro _ (And.intro rfl (And.intro rfl ?_))); refine ⟨by assumption, by assumption, ?_⟩; (refine ⟨?_, trivial⟩; (first | done | focus (first | (dsimp only; done) | ((try dsimp only); ((first | (refine Or.inl ⟨?_, ?_⟩ <;> omega) | ((have e4 : v4 = 4 := by omega); subst e4; exact Or.inr ⟨w3, _, w1, w2⟩) | fail))))))))
          | ((fail_if_success (first | (with_reducible show _ ≤ _) | (with_reducible show _ = _) | (with_reducible show _ ∨ _) | (with_reducible show _ < _) | (with_reducible show G _ _ _ _))); (refine Exists.intro _ (Exists.intro _ (And.intro rfl (And.intro rfl ?_))); refine ⟨by assumption, by assumption, ?_⟩; simp only [Nat.reduceAdd] at *; (refine ⟨?_, trivial⟩; (first | done | focus (first | (dsimp only; done) | ((try dsimp only); ((first | (refine Or.inl ⟨?_, ?_⟩ <;> omega) | ((have e4 : v4 = 4 := by omega); subst e4; exact Or.inr ⟨w3, _, w1, w2⟩) | fail))))))))
          | omega
          | (dsimp only; omega)
          | decide
          | (show (0 : Int) < _; omega)
          | (show (0 : Int) < _; simp only [w64] at *; omega)
          | (simp only [w32, w64] at *; omega)
          | (first | omega | ((try dsimp only); (first | omega | (simp (disch := omega) only [w32_id, w64_id]; omega) | (simp only [w32, w64]; omega) | (with_reducible refine (and32_le ?_ ?_).1 <;> omega) | (with_reducible refine (and32_le ?_ ?_).2 <;> omega) | (with_reducible refine (mulR ?_ ?_ ?_ ?_).1 <;> omega) | (with_reducible refine (mulR ?_ ?_ ?_ ?_).2 <;> omega) | (simp only [w32, w64] at *; omega) | (simp (disch := omega) only [w32_id, w64_id] at *; omega) | (simp (disch := omega) only [tdiv_nn, tmod_nn, w32_id, w64_id] at *; omega) | (subst_vars; simp [upZ] at *; omega) | (subst_vars; simp [upZ] at *; simp only [w32, w64] at *; omega))) | fail)
          | ((with_reducible show swT _ _ _ _); exact trivial)
          | rfl
          | ((fail_if_success (first | (with_reducible show _ ≤ _) | (with_reducible show _ = _) | (with_reducible show _ ∨ _) | (with_reducible show _ < _) | (with_reducible show G _ _ _ _) | (with_reducible show Exists _))); exact trivial)
          | skip
  have hcl := tl_cells hI
  have hIZ := hI
  refine wq_run hG n R0 [39] 900 _ _ _ _ ?_
  repeat' (first
      | with_reducible rfl
      | ((with_reducible show PLH _); first | exact q0 | exact PLH_o (fun o h1 h2 => hun o (by omega) (by omega)) q0)
      | ((with_reducible show LNO _); exact q2)
      | ((with_reducible show FRM _); exact q3)
      | refine And.intro ?_ ?_
      | with_reducible exact True.intro
      | ((with_reducible show _ = true); rfl)
      | ((with_reducible show recvG _ _); rfl)
      | ((with_reducible show CI _); first | with_reducible assumption | assumption)
      | (fail_if_success (first | (with_reducible show _ ≤ _) | (with_reducible show _ = _) | (with_reducible show _ ∨ _) | (with_reducible show _ < _) | (with_reducible show G _ _ _ _))
         first
         | show G _ _ _ _
         | (refine ld_bnd (by first | with_reducible assumption | assumption) rfl ?_; intro _ _ _ hld; (try dsimp only at hld); (try (have hmx : _ = Z1 122 (144 * a1.toNat + 4 * a2.toNat + v4.toNat) := hld.trans (congrArg (Z1 122) (by omega)))))
         | (refine st_k (by first | with_reducible assumption | assumption) (by first | with_reducible assumption | assumption) (by first | exact Or.inl (by decide) | exact Or.inr (by decide)) (fun lo hi hb => by first | (cases hb; done) | (cases hb; constructor <;> (first | omega | ((try dsimp only); (first | omega | (simp (disch := omega) only [w32_id, w64_id]; omega) | (simp only [w32, w64]; omega) | (with_reducible refine (and32_le ?_ ?_).1 <;> omega) | (with_reducible refine (and32_le ?_ ?_).2 <;> omega) | (with_reducible refine (mulR ?_ ?_ ?_ ?_).1 <;> omega) | (with_reducible refine (mulR ?_ ?_ ?_ ?_).2 <;> omega) | (simp only [w32, w64] at *; omega) | (simp (disch := omega) only [w32_id, w64_id] at *; omega) | (simp (disch := omega) only [tdiv_nn, tmod_nn, w32_id, w64_id] at *; omega) | (subst_vars; simp [upZ] at *; omega) | (subst_vars; simp [upZ] at *; simp only [w32, w64] at *; omega))) | fail))) ?_; intro Z' _ hkk; intro hld; (try dsimp only at hld); (try (have hmx : _ = Z1 122 (144 * a1.toNat + 4 * a2.toNat + v4.toNat) := hld.trans (congrArg (Z1 122) (by omega)))); intro hup; (try dsimp only at hup))
         | (refine st_k (by first | with_reducible assumption | assumption) (by first | with_reducible assumption | assumption) (by first | exact Or.inl (by decide) | exact Or.inr (by decide)) (fun lo hi hb => ?_) ?_; (cases hb; refine And.intro ?_ ?_))
         | refine st_same ?_
         | (intro (r : Option PV) σ' hq
            first
            | (obtain ⟨rfl, x, rfl, hp⟩ := hq; (try replace hp : _ ∧ _ := hp); (try dsimp only at hp); (first | (have hal : _ = w32 (shl32 1 (Z 100 19) - 1) := hp.1) | (have hha : SOL _ _ _ _ _ _ := hp.2.1; have hwh := hp.1) | (have hm_ : _ = mkV _ _ _ _ _ := hp.1; rw [envH_w hun w35 w36 g2] at hm_) | (have hpl : (_ : Int) = 144 * _ + 4 * _ + _ := hp.1) | skip))
            | (obtain ⟨Z', (o : Nat), rfl, rfl, hI2, hk2, ⟨⟨hp, rfl⟩ | ⟨hp, rfl⟩, -⟩⟩ := hq <;> ((first | have hk3 := kp_to (by first | with_reducible assumption | assumption) (by rfl) hk2 | have hk3 := ks_to (by first | with_reducible assumption | assumption) (by rfl) hk2); clear hk2))
            | (obtain ⟨Z', x, rfl, rfl, hI2, hk2, hp⟩ := hq; (try replace hp : _ ∧ _ := hp); (try dsimp only at hp); (first | have hk3 := kp_to (by first | with_reducible assumption | assumption) (by rfl) hk2 | have hk3 := ks_to (by first | with_reducible assumption | assumption) (by rfl) hk2); clear hk2; (first | (have hal : _ = w32 (shl32 1 (Z 100 19) - 1) := hp.1) | (have hha : SOL _ _ _ _ _ _ := hp.2.1; have hwh := hp.1) | (have hm_ : _ = mkV _ _ _ _ _ := hp.1; rw [envH_w hun w35 w36 g2] at hm_) | (have hpl : (_ : Int) = 144 * _ + 4 * _ + _ := hp.1) | skip))
            | (obtain ⟨Z', rfl, rfl, hI2, hk2, hp⟩ := hq; (try replace hp : _ ∧ _ := hp); (try dsimp only at hp); (first | have hk3 := kp_to (by first | with_reducible assumption | assumption) (by rfl) hk2 | have hk3 := ks_to (by first | with_reducible assumption | assumption) (by rfl) hk2); clear hk2; (first | (have hal : _ = w32 (shl32 1 (Z 100 19) - 1) := hp.1) | (have hha : SOL _ _ _ _ _ _ := hp.2.1; have hwh := hp.1) | (have hm_ : _ = mkV _ _ _ _ _ := hp.1; rw [envH_w hun w35 w36 g2] at hm_) | (have hpl : (_ : Int) = 144 * _ + 4 * _ + _ := hp.1) | skip))
            | (obtain ⟨rfl, rfl⟩ := hq)
            | (obtain ⟨Z', x, rfl, rfl, hI2, hk2⟩ := hq; have hkn := keeps_nil hk2; clear hk2; subst hkn)
            | (obtain ⟨Z', x, rfl, rfl, hI2, hk2⟩ := hq; (first | have hk3 := kp_to (by first | with_reducible assumption | assumption) (by rfl) hk2 | have hk3 := ks_to (by first | with_reducible assumption | assumption) (by rfl) hk2); clear hk2)
            | (rcases hq with ⟨Z', rfl, rfl, hI2, hk2⟩ | ⟨Z', rfl, rfl, hI2, hk2⟩ <;> ((first | have hk3 := kp_to (by first | with_reducible assumption | assumption) (by rfl) hk2 | have hk3 := ks_to (by first | with_reducible assumption | assumption) (by rfl) hk2); clear hk2))
            | (obtain ⟨Z', rfl, rfl, hI2, hk2⟩ := hq; (first | have hk3 := kp_to (by first | with_reducible assumption | assumption) (by rfl) hk2 | have hk3 := ks_to (by first | with_reducible assumption | assumption) (by rfl) hk2); clear hk2))
         | (intro hc; (try simp only [cmp3_c] at hc); simp only [cmpI] at hc)
         | (show CI _; assumption)
         | intro (_ : Int)
         | intro (Z' : ZT)
         | intro (_ : CI _)
         | (intro (hkk : kp _ _ _))
         | intro (_ : _ ≤ _)
         | (intro (hup : _ = upZ _ _ _ _); (try dsimp only at hup))
         | (intro (hld : _ = _); (try dsimp only at hld); (try (have hmx : _ = Z1 122 (144 * a1.toNat + 4 * a2.toNat + v4.toNat) := hld.trans (congrArg (Z1 122) (by omega)))))
         | intro (_ : _ < _)
         | intro (_ : _ ≠ _)
         | intro (_ : _ ∨ _)))
  all_goals (have lp39 := loop 1000000)
  all_goals first
    | ((with_reducible show G 39 _ _ _); refine hG.2 39 _ [(0, vr 100), (1, vi a1), (2, vi a2), (3, vi _), (4, vi _)] _ _ rfl ?_)
    | ((fail_if_success (first | (with_reducible show _ ≤ _) | (with_reducible show _ = _) | (with_reducible show _ ∨ _) | (with_reducible show _ < _))); first | refine hG.2 39 _ [(0, vr 100), (1, vi a1), (2, vi a2), (3, vi _), (4, vi _)] _ _ rfl ?_)
    | skip
  all_goals first
    | with_reducible rfl
    | ((with_reducible show _ = _); rfl)
    | ((with_reducible show recvG _ _); rfl)
    | ((with_reducible show G 39 _ _ _); refine lp39 _ _ _ ?_ ?_ ?_ ?_; assumption; assumption; (refine ⟨?_, ?_, ?_, ?_, ?_, ?_, trivial⟩; (first | done | focus (first | (dsimp only; done) | ((try dsimp only); (first | omega | (refine ⟨?_, ?_⟩ <;> (first | omega | ((try dsimp only); (first | omega | (simp (disch := omega) only [w32_id, w64_id]; omega) | (simp only [w32, w64]; omega) | (with_reducible refine (and32_le ?_ ?_).1 <;> omega) | (with_reducible refine (and32_le ?_ ?_).2 <;> omega) | (with_reducible refine (mulR ?_ ?_ ?_ ?_).1 <;> omega) | (with_reducible refine (mulR ?_ ?_ ?_ ?_).2 <;> omega) | (simp only [w32, w64] at *; omega) | (simp (disch := omega) only [w32_id, w64_id] at *; omega) | (simp (disch := omega) only [tdiv_nn, tmod_nn, w32_id, w64_id] at *; omega) | (subst_vars; simp [upZ] at *; omega) | (subst_vars; simp [upZ] at *; simp only [w32, w64] at *; omega))) | fail)) | (first | omega | ((try dsimp only); (first | omega | (simp (disch := omega) only [w32_id, w64_id]; omega) | (simp only [w32, w64]; omega) | (with_reducible refine (and32_le ?_ ?_).1 <;> omega) | (with_reducible refine (and32_le ?_ ?_).2 <;> omega) | (with_reducible refine (mulR ?_ ?_ ?_ ?_).1 <;> omega) | (with_reducible refine (mulR ?_ ?_ ?_ ?_).2 <;> omega) | (simp only [w32, w64] at *; omega) | (simp (disch := omega) only [w32_id, w64_id] at *; omega) | (simp (disch := omega) only [tdiv_nn, tmod_nn, w32_id, w64_id] at *; omega) | (subst_vars; simp [upZ] at *; omega) | (subst_vars; simp [upZ] at *; simp only [w32, w64] at *; omega))) | fail) | fail)))); (first | done | focus (first | (dsimp only; done) | ((try dsimp only); ((first | with_reducible assumption | exact RWM_0 hIZ (by omega) hha | exact RWM_1 hIZ (by omega) hal hha | exact RWM_1 hIZ rfl hal hha | fail))))); (first | done | focus (first | (dsimp only; done) | ((try dsimp only); ((first | exact rfl | (refine bt_y w2 (decide_eq_true ?_) rfl (by omega) (by first | omega | (simp (disch := omega) only [w32_id]; first | done | omega)); (rw [← hm_, ← hmx]; omega)) | (rw [or32_0 (hbr (by omega))]; refine bt_n w2 (decide_eq_false ?_) (by omega) (by first | omega | (simp (disch := omega) only [w32_id]; first | done | omega)); (rw [← hm_, ← hmx]; omega)) | fail))))); (first | done | focus (first | (dsimp only; done) | ((try dsimp only); ((first | assumption | (refine ⟨⟨?_, ?_⟩, ?_, ?_⟩ <;> omega) | fail))))); (first | done | focus (first | (dsimp only; done) | ((try dsimp only); ((first | exact hwh.1 | omega))))); (first | done | focus (first | (dsimp only; done) | ((try dsimp only); ((first | exact hwh.2 | omega)))))); (first | omega | ((try dsimp only); (first | omega | (simp (disch := omega) only [w32_id, w64_id]; omega) | (simp only [w32, w64]; omega) | (with_reducible refine (and32_le ?_ ?_).1 <;> omega) | (with_reducible refine (and32_le ?_ ?_).2 <;> omega) | (with_reducible refine (mulR ?_ ?_ ?_ ?_).1 <;> omega) | (with_reducible refine (mulR ?_ ?_ ?_ ?_).2 <;> omega) | (simp only [w32, w64] at *; omega) | (simp (disch := omega) only [w32_id, w64_id] at *; omega) | (simp (disch := omega) only [tdiv_nn, tmod_nn, w32_id, w64_id] at *; omega) | (subst_vars; simp [upZ] at *; omega) | (subst_vars; simp [upZ] at *; simp only [w32, w64] at *; omega))) | fail))
    | with_reducible exact trivial
    | with_reducible assumption
    | ((with_reducible show NWM _); exact q1)
    | ((with_reducible show _ < _); (try dsimp only); (rw [w35, w36]); omega)
    | ((fail_if_success (first | (with_reducible show _ ≤ _) | (with_reducible show _ = _) | (with_reducible show _ ∨ _) | (with_reducible show _ < _) | (with_reducible show G _ _ _ _))); (refine Exists.intro _ (Exists.intro _ (And.intro rfl (And.intro rfl ?_))); refine ⟨by assumption, by assumption, ?_⟩; (refine ⟨?_, trivial⟩; (first | done | focus (first | (dsimp only; done) | ((try dsimp only); ((first | (refine Or.inl ⟨?_, ?_⟩ <;> omega) | ((have e4 : v4 = 4 := by omega); subst e4; exact Or.inr ⟨w3, _, w1, w2⟩) | fail))))))))
    | ((fail_if_success (first | (with_reducible show _ ≤ _) | (with_reducible show _ = _) | (with_reducible show _ ∨ _) | (with_reducible show _ < _) | (with_reducible show G _ _ _ _))); (refine Exists.intro _ (Exists.intro _ (And.intro rfl (And.intro rfl ?_))); refine ⟨by assumption, by assumption, ?_⟩; simp only [Nat.reduceAdd] at *; (refine ⟨?_, trivial⟩; (first | done | focus (first | (dsimp only; done) | ((try dsimp only); ((first | (refine Or.inl ⟨?_, ?_⟩ <;> omega) | ((have e4 : v4 = 4 := by omega); subst e4; exact Or.inr ⟨w3, _, w1, w2⟩) | fail))))))))
    | omega
    | (dsimp only; omega)
    | decide
    | (show (0 : Int) < _; omega)
    | (show (0 : Int) < _; simp only [w64] at *; omega)
    | (simp only [w32, w64] at *; omega)
    | (first | omega | ((try dsimp only); (first | omega | (simp (disch := omega) only [w32_id, w64_id]; omega) | (simp only [w32, w64]; omega) | (with_reducible refine (and32_le ?_ ?_).1 <;> omega) | (with_reducible refine (and32_le ?_ ?_).2 <;> omega) | (with_reducible refine (mulR ?_ ?_ ?_ ?_).1 <;> omega) | (with_reducible refine (mulR ?_ ?_ ?_ ?_).2 <;> omega) | (simp only [w32, w64] at *; omega) | (simp (disch := omega) only [w32_id, w64_id] at *; omega) | (simp (disch := omega) only [tdiv_nn, tmod_nn, w32_id, w64_id] at *; omega) | (subst_vars; simp [upZ] at *; omega) | (subst_vars; simp [upZ] at *; simp only [w32, w64] at *; omega))) | fail)
    | ((with_reducible show swT _ _ _ _); exact trivial)
    | rfl
    | ((fail_if_success (first | (with_reducible show _ ≤ _) | (with_reducible show _ = _) | (with_reducible show _ ∨ _) | (with_reducible show _ < _) | (with_reducible show G _ _ _ _) | (with_reducible show Exists _))); exact trivial)
    | skip
