/-! ===== told sums, counts: exactly ===== -/
def s_X11_tellX : Sp := rRI 6 11 (fun as Z => match as with
    | [.inr (.inr a0), .inl a1, .inl a2, .inl a3, .inl a4, .inr (.inl a5)] => ((a0 = 100)) ∧ (True) ∧ (True) ∧ (True) ∧ (True) ∧ (True) ∧ True
    | _ => False) (fun as => match as with
    | [.inr (.inr a0), .inl a1, .inl a2, .inl a3, .inl a4, .inr (.inl a5)] => [117, 25100, 26100]
    | _ => []) (fun as Z (x : Int) Z' => match as with
    | [.inr (.inr a0), .inl a1, .inl a2, .inl a3, .inl a4, .inr (.inl a5)] => (x = -1 ∧ ¬(0 ≤ a1 ∧ a1 ≤ 12 ∧ 0 ≤ a2 ∧ a2 ≤ 3 ∧ 0 ≤ a4 ∧ (a3 = 0 ∧ a4 < Z 100 1 ∨ a3 ≠ 0 ∧ a4 < Z 100 0) ∧ (-1000000000000 ≤ a5 ∧ a5 ≤ 1000000000000 ∨ a5 = 2000000000000)) ∧ Z' 100 24 = Z 100 24 ∧ Z' 100 25 = Z 100 25 ∧ Z' 117 = Z 117 ∨ x = 0 ∧ (0 ≤ a1 ∧ a1 ≤ 12 ∧ 0 ≤ a2 ∧ a2 ≤ 3 ∧ 0 ≤ a4 ∧ (a3 = 0 ∧ a4 < Z 100 1 ∨ a3 ≠ 0 ∧ a4 < Z 100 0) ∧ (-1000000000000 ≤ a5 ∧ a5 ≤ 1000000000000 ∨ a5 = 2000000000000)) ∧ (Z' 100 24 = a1) ∧ (Z' 100 25 = a2) ∧ (∀ k : Nat, (k : Int) < 12 → Z' 117 k = if (a3 = 0 ∧ (k : Int) = a4 ∨ a3 ≠ 0 ∧ (k : Int) = 6 + a4) then a5 else if Z 100 24 = a1 ∧ Z 100 25 = a2 then Z 117 k else 2000000000000)) ∧ True
    | _ => False)
set_option maxRecDepth 100000 in
set_option maxHeartbeats 40000000 in
theorem c_X11_tellX {l : Launch} {D : va_G} {cA : Nat → ClassId} : PM l D cA yX11_tell cX11_tell 8 (some .int) 2 45 s_X11_tellX := by
  refine of_X11_tell (c_X11_in) ⟨rfl, rfl⟩ (c_X11_isLetter) ⟨rfl, rfl⟩ (c_X11_clearsX) ⟨rfl, rfl⟩ (fun as σ hwf hao hpre => ?_)
  obtain ⟨n, Z, R⟩ := σ
  obtain ⟨hR, hI, hpre⟩ := hpre
  obtain rfl : R = R0 := hR
  (try replace hI : CI Z := hI)
  rcases as with _ | ⟨x | x | a0, _ | ⟨a1 | x | x, _ | ⟨a2 | x | x, _ | ⟨a3 | x | x, _ | ⟨a4 | x | x, _ | ⟨x | a5 | x, _ | ⟨v, t⟩⟩⟩⟩⟩⟩⟩ <;> first | exact (hpre : False).elim | skip
  obtain ⟨k1l, k1u⟩ : okI a1 := hao (vi a1) (by simp)
  obtain ⟨k2l, k2u⟩ : okI a2 := hao (vi a2) (by simp)
  obtain ⟨k3l, k3u⟩ : okI a3 := hao (vi a3) (by simp)
  obtain ⟨k4l, k4u⟩ : okI a4 := hao (vi a4) (by simp)
  obtain ⟨k5l, k5u⟩ : okL a5 := hao (vl a5) (by simp)
  obtain ⟨h0, h1, h2, h3, h4, h5, -⟩ := hpre
  have hk : kp ([117, 25100, 26100]) Z Z := kp_refl
  refine ⟨Nat.le_of_ble_eq_true rfl, fun G hG => ?_⟩
  clear hao hwf
  obtain rfl := h0
  have e117 : Z 117 = Z 117 := rfl
  have hw0 : 2 ≤ Z 100 0 ∧ Z 100 0 ≤ 6 := hI 100 0 2 6 rfl
  have hw1 : 2 ≤ Z 100 1 ∧ Z 100 1 ≤ 6 := hI 100 1 2 6 rfl
  refine wq_run hG n R0 [] 900 _ _ _ _ ?_
  repeat' (first
      | with_reducible rfl
      | refine And.intro ?_ ?_
      | with_reducible exact True.intro
      | ((with_reducible show _ = true); rfl)
      | ((with_reducible show recvG _ _); rfl)
      | ((with_reducible show CI _); first | with_reducible assumption | assumption)
      | (fail_if_success (first | (with_reducible show _ ≤ _) | (with_reducible show _ = _) | (with_reducible show _ ∨ _) | (with_reducible show _ < _))
         first
         | (refine ld_bnd (by first | with_reducible assumption | assumption) rfl ?_; intro _ _ _ hld; (try dsimp only at hld); (try simp only [Nat.reduceAdd] at hld))
         | (refine st_k (by first | with_reducible assumption | assumption) (by first | with_reducible assumption | assumption) (by first | exact Or.inl (by decide) | exact Or.inr (by decide)) (fun lo hi hb => by first | (cases hb; done) | (cases hb; constructor <;> (first | omega | ((try dsimp only); (first | omega | (simp (disch := omega) only [w32_id]; omega))) | fail))) ?_; intro Z' _ hkk; intro hld; (try dsimp only at hld); (try simp only [Nat.reduceAdd] at hld); intro hup; (try dsimp only at hup); (first | have := (congrFun (congrFun hup 100) 24).trans (up_ne (by decide)) | have := (congrFun (congrFun hup 100) 24).trans (up_nk (o := 100) (by decide)) | skip); (first | have := (congrFun (congrFun hup 100) 25).trans (up_ne (by decide)) | have := (congrFun (congrFun hup 100) 25).trans (up_nk (o := 100) (by decide)) | skip); (first | have := (congrFun (congrFun hup 100) 0).trans (up_ne (by decide)) | have := (congrFun (congrFun hup 100) 0).trans (up_nk (o := 100) (by decide)) | skip); (first | have := (congrFun (congrFun hup 100) 1).trans (up_ne (by decide)) | have := (congrFun (congrFun hup 100) 1).trans (up_nk (o := 100) (by decide)) | skip); (first | have fl117 := FL_up hup fl117 (by first | rfl | omega) (by omega) | have fl117 := FL_o (up_o hup (by decide)) fl117 | skip); (try have e117 := (up_o hup (by decide)).trans e117); (first | have f117 : _ = upZ _ 117 _ _ 117 := congrFun hup 117 | have f117 := (up_o hup (by decide)).trans f117 | skip))
         | (refine st_k (by first | with_reducible assumption | assumption) (by first | with_reducible assumption | assumption) (by first | exact Or.inl (by decide) | exact Or.inr (by decide)) (fun lo hi hb => ?_) ?_; (cases hb; refine And.intro ?_ ?_))
         | refine st_same ?_
         | (intro (r : Option PV) σ' hq
            first
            | (obtain ⟨rfl, x, rfl, hp⟩ := hq; (try replace hp : _ ∧ _ := hp); (try dsimp only at hp); (first | (have fl117 : FL _ 117 _ 12 := hp.1) | ((try simp (disch := omega) only [w32_id, w64_id] at hp); rcases hp with ⟨rfl, hp1, hp2⟩ | ⟨rfl, hp1⟩) | skip))
            | (obtain ⟨Z', (o : Nat), rfl, rfl, hI2, hk2, ⟨⟨hp, rfl⟩ | ⟨hp, rfl⟩, -⟩⟩ := hq <;> ((first | have hk3 := kp_to (by first | with_reducible assumption | assumption) (by rfl) hk2 | have hk3 := ks_to (by first | with_reducible assumption | assumption) (by rfl) hk2); (first | have e117 := (kp_av (o := 117) hk2 (by rfl) (by decide)).trans e117 | skip); (first | have fl117 := FL_o (kp_av (o := 117) hk2 (by rfl) (by decide)) fl117 | have fl117 := FL_o (ks_av (o := 117) hk2 (by rfl)) fl117 | skip); (first | have := kpF 100 24 hk2 (by rfl) | have := ksF 100 24 hk2 (by rfl) | skip); (try dsimp only at this); (first | have := kpF 100 25 hk2 (by rfl) | have := ksF 100 25 hk2 (by rfl) | skip); (try dsimp only at this); (first | have := kpF 100 0 hk2 (by rfl) | have := ksF 100 0 hk2 (by rfl) | skip); (try dsimp only at this); (first | have := kpF 100 1 hk2 (by rfl) | have := ksF 100 1 hk2 (by rfl) | skip); (try dsimp only at this); clear hk2))
            | (obtain ⟨Z', x, rfl, rfl, hI2, hk2, hp⟩ := hq; (try replace hp : _ ∧ _ := hp); (try dsimp only at hp); (first | have hk3 := kp_to (by first | with_reducible assumption | assumption) (by rfl) hk2 | have hk3 := ks_to (by first | with_reducible assumption | assumption) (by rfl) hk2); (first | have e117 := (kp_av (o := 117) hk2 (by rfl) (by decide)).trans e117 | skip); (first | have fl117 := FL_o (kp_av (o := 117) hk2 (by rfl) (by decide)) fl117 | have fl117 := FL_o (ks_av (o := 117) hk2 (by rfl)) fl117 | skip); (first | have := kpF 100 24 hk2 (by rfl) | have := ksF 100 24 hk2 (by rfl) | skip); (try dsimp only at this); (first | have := kpF 100 25 hk2 (by rfl) | have := ksF 100 25 hk2 (by rfl) | skip); (try dsimp only at this); (first | have := kpF 100 0 hk2 (by rfl) | have := ksF 100 0 hk2 (by rfl) | skip); (try dsimp only at this); (first | have := kpF 100 1 hk2 (by rfl) | have := ksF 100 1 hk2 (by rfl) | skip); (try dsimp only at this); clear hk2; (first | (have fl117 : FL _ 117 _ 12 := hp.1) | ((try simp (disch := omega) only [w32_id, w64_id] at hp); rcases hp with ⟨rfl, hp1, hp2⟩ | ⟨rfl, hp1⟩) | skip))
            | (obtain ⟨Z', rfl, rfl, hI2, hk2, hp⟩ := hq; (try replace hp : _ ∧ _ := hp); (try dsimp only at hp); (first | have hk3 := kp_to (by first | with_reducible assumption | assumption) (by rfl) hk2 | have hk3 := ks_to (by first | with_reducible assumption | assumption) (by rfl) hk2); (first | have e117 := (kp_av (o := 117) hk2 (by rfl) (by decide)).trans e117 | skip); (first | have fl117 := FL_o (kp_av (o := 117) hk2 (by rfl) (by decide)) fl117 | have fl117 := FL_o (ks_av (o := 117) hk2 (by rfl)) fl117 | skip); (first | have := kpF 100 24 hk2 (by rfl) | have := ksF 100 24 hk2 (by rfl) | skip); (try dsimp only at this); (first | have := kpF 100 25 hk2 (by rfl) | have := ksF 100 25 hk2 (by rfl) | skip); (try dsimp only at this); (first | have := kpF 100 0 hk2 (by rfl) | have := ksF 100 0 hk2 (by rfl) | skip); (try dsimp only at this); (first | have := kpF 100 1 hk2 (by rfl) | have := ksF 100 1 hk2 (by rfl) | skip); (try dsimp only at this); clear hk2; (first | (have fl117 : FL _ 117 _ 12 := hp.1) | ((try simp (disch := omega) only [w32_id, w64_id] at hp); rcases hp with ⟨rfl, hp1, hp2⟩ | ⟨rfl, hp1⟩) | skip))
            | (obtain ⟨rfl, rfl⟩ := hq)
            | (obtain ⟨Z', x, rfl, rfl, hI2, hk2⟩ := hq; have hkn := keeps_nil hk2; clear hk2; subst hkn)
            | (obtain ⟨Z', x, rfl, rfl, hI2, hk2⟩ := hq; (first | have hk3 := kp_to (by first | with_reducible assumption | assumption) (by rfl) hk2 | have hk3 := ks_to (by first | with_reducible assumption | assumption) (by rfl) hk2); (first | have e117 := (kp_av (o := 117) hk2 (by rfl) (by decide)).trans e117 | skip); (first | have fl117 := FL_o (kp_av (o := 117) hk2 (by rfl) (by decide)) fl117 | have fl117 := FL_o (ks_av (o := 117) hk2 (by rfl)) fl117 | skip); (first | have := kpF 100 24 hk2 (by rfl) | have := ksF 100 24 hk2 (by rfl) | skip); (try dsimp only at this); (first | have := kpF 100 25 hk2 (by rfl) | have := ksF 100 25 hk2 (by rfl) | skip); (try dsimp only at this); (first | have := kpF 100 0 hk2 (by rfl) | have := ksF 100 0 hk2 (by rfl) | skip); (try dsimp only at this); (first | have := kpF 100 1 hk2 (by rfl) | have := ksF 100 1 hk2 (by rfl) | skip); (try dsimp only at this); clear hk2)
            | (rcases hq with ⟨Z', rfl, rfl, hI2, hk2⟩ | ⟨Z', rfl, rfl, hI2, hk2⟩ <;> ((first | have hk3 := kp_to (by first | with_reducible assumption | assumption) (by rfl) hk2 | have hk3 := ks_to (by first | with_reducible assumption | assumption) (by rfl) hk2); (first | have e117 := (kp_av (o := 117) hk2 (by rfl) (by decide)).trans e117 | skip); (first | have fl117 := FL_o (kp_av (o := 117) hk2 (by rfl) (by decide)) fl117 | have fl117 := FL_o (ks_av (o := 117) hk2 (by rfl)) fl117 | skip); (first | have := kpF 100 24 hk2 (by rfl) | have := ksF 100 24 hk2 (by rfl) | skip); (try dsimp only at this); (first | have := kpF 100 25 hk2 (by rfl) | have := ksF 100 25 hk2 (by rfl) | skip); (try dsimp only at this); (first | have := kpF 100 0 hk2 (by rfl) | have := ksF 100 0 hk2 (by rfl) | skip); (try dsimp only at this); (first | have := kpF 100 1 hk2 (by rfl) | have := ksF 100 1 hk2 (by rfl) | skip); (try dsimp only at this); clear hk2))
            | (obtain ⟨Z', rfl, rfl, hI2, hk2⟩ := hq; (first | have hk3 := kp_to (by first | with_reducible assumption | assumption) (by rfl) hk2 | have hk3 := ks_to (by first | with_reducible assumption | assumption) (by rfl) hk2); (first | have e117 := (kp_av (o := 117) hk2 (by rfl) (by decide)).trans e117 | skip); (first | have fl117 := FL_o (kp_av (o := 117) hk2 (by rfl) (by decide)) fl117 | have fl117 := FL_o (ks_av (o := 117) hk2 (by rfl)) fl117 | skip); (first | have := kpF 100 24 hk2 (by rfl) | have := ksF 100 24 hk2 (by rfl) | skip); (try dsimp only at this); (first | have := kpF 100 25 hk2 (by rfl) | have := ksF 100 25 hk2 (by rfl) | skip); (try dsimp only at this); (first | have := kpF 100 0 hk2 (by rfl) | have := ksF 100 0 hk2 (by rfl) | skip); (try dsimp only at this); (first | have := kpF 100 1 hk2 (by rfl) | have := ksF 100 1 hk2 (by rfl) | skip); (try dsimp only at this); clear hk2))
         | (intro hc; (try simp only [cmp3_c] at hc); simp only [cmpI] at hc; (try (exfalso; omega)))
         | (show CI _; assumption)
         | intro (_ : Int)
         | intro (Z' : ZT)
         | intro (_ : CI _)
         | (intro (hkk : kp _ _ _))
         | intro (_ : _ ≤ _)
         | (intro (hup : _ = upZ _ _ _ _); (try dsimp only at hup); (first | have := (congrFun (congrFun hup 100) 24).trans (up_ne (by decide)) | have := (congrFun (congrFun hup 100) 24).trans (up_nk (o := 100) (by decide)) | skip); (first | have := (congrFun (congrFun hup 100) 25).trans (up_ne (by decide)) | have := (congrFun (congrFun hup 100) 25).trans (up_nk (o := 100) (by decide)) | skip); (first | have := (congrFun (congrFun hup 100) 0).trans (up_ne (by decide)) | have := (congrFun (congrFun hup 100) 0).trans (up_nk (o := 100) (by decide)) | skip); (first | have := (congrFun (congrFun hup 100) 1).trans (up_ne (by decide)) | have := (congrFun (congrFun hup 100) 1).trans (up_nk (o := 100) (by decide)) | skip); (first | have fl117 := FL_up hup fl117 (by first | rfl | omega) (by omega) | have fl117 := FL_o (up_o hup (by decide)) fl117 | skip); (try have e117 := (up_o hup (by decide)).trans e117); (first | have f117 : _ = upZ _ 117 _ _ 117 := congrFun hup 117 | have f117 := (up_o hup (by decide)).trans f117 | skip))
         | (intro (hld : _ = _); (try dsimp only at hld); (try simp only [Nat.reduceAdd] at hld))
         | intro (_ : _ < _)
         | intro (_ : _ ≠ _)
         | intro (_ : _ ∨ _)))
  all_goals first
    | with_reducible rfl
    | ((with_reducible show _ = _); rfl)
    | ((with_reducible show recvG _ _); rfl)
    | with_reducible exact trivial
    | with_reducible assumption
    | (refine Exists.intro _ (Exists.intro _ (And.intro rfl (And.intro rfl ?_))); refine ⟨by assumption, by assumption, ?_⟩; (refine ⟨?_, trivial⟩; (first | done | focus (first | (dsimp only; done) | ((try dsimp only); ((first | (refine Or.inl ⟨rfl, ?_, ?_, ?_, ?_⟩ <;> first | with_reducible assumption | omega) | (refine Or.inr ⟨rfl, ?_, ?_, ?_, ?_⟩ <;> first | omega | (first | exact TS_a f117 (fun k => by first | ((simp (disch := omega) only [w32_id]); omega) | omega) (by first | (with_reducible exact TS_s e117 (by omega)) | (with_reducible exact TS_f fl117 (by omega)) | exact TS_s (by with_reducible assumption) (by omega) | exact TS_f (by with_reducible assumption) (by omega)) | exact TS_n (fun k => by omega) (by first | (with_reducible exact TS_s e117 (by omega)) | (with_reducible exact TS_f fl117 (by omega)) | exact TS_s (by with_reducible assumption) (by omega) | exact TS_f (by with_reducible assumption) (by omega)) | fail)) | fail)))))))
    | (refine Exists.intro _ (Exists.intro _ (And.intro rfl (And.intro rfl ?_))); refine ⟨by assumption, by assumption, ?_⟩; simp only [Nat.reduceAdd] at *; (refine ⟨?_, trivial⟩; (first | done | focus (first | (dsimp only; done) | ((try dsimp only); ((first | (refine Or.inl ⟨rfl, ?_, ?_, ?_, ?_⟩ <;> first | with_reducible assumption | omega) | (refine Or.inr ⟨rfl, ?_, ?_, ?_, ?_⟩ <;> first | omega | (first | exact TS_a f117 (fun k => by first | ((simp (disch := omega) only [w32_id]); omega) | omega) (by first | (with_reducible exact TS_s e117 (by omega)) | (with_reducible exact TS_f fl117 (by omega)) | exact TS_s (by with_reducible assumption) (by omega) | exact TS_f (by with_reducible assumption) (by omega)) | exact TS_n (fun k => by omega) (by first | (with_reducible exact TS_s e117 (by omega)) | (with_reducible exact TS_f fl117 (by omega)) | exact TS_s (by with_reducible assumption) (by omega) | exact TS_f (by with_reducible assumption) (by omega)) | fail)) | fail)))))))
    | omega
    | (dsimp only; omega)
    | decide
    | (show (0 : Int) < _; omega)
    | (show (0 : Int) < _; simp only [w64] at *; omega)
    | (simp only [w32, w64] at *; omega)
    | (first | omega | ((try dsimp only); (first | omega | (simp (disch := omega) only [w32_id]; omega))) | fail)
    | ((with_reducible show swT _ _ _ _); exact trivial)
    | rfl
    | skip
