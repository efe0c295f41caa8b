/-! ===== numbers reckoned: what the boards hold stays right ===== -/
theorem nx_ge {W H e : Int} {c s : Nat} (hW : 1 ≤ W ∧ W ≤ 6) (hH : 1 ≤ H ∧ H ≤ 6) (hc : (c : Int) < W * H) (hs : s ≤ 4) : -1 ≤ nx W H e c s := by
  have hW' : W = 1 ∨ W = 2 ∨ W = 3 ∨ W = 4 ∨ W = 5 ∨ W = 6 := by omega
  have hs' : s = 0 ∨ s = 1 ∨ s = 2 ∨ s = 3 ∨ s = 4 := by omega
  unfold nx
  rcases hW' with rfl | rfl | rfl | rfl | rfl | rfl <;> rcases hs' with rfl | rfl | rfl | rfl | rfl <;> ((first | simp only [nv, foundF] | (unfold nv; dsimp only; unfold foundF) | (unfold nv; dsimp only)); (repeat' split) <;> omega)
theorem half_r {w x : Int} (hw : 2 ≤ w ∧ w ≤ 6) (hx : x = w / 2) : 1 ≤ x ∧ x ≤ 3 := by omega
theorem NR_w {Z : ZT} {o : Nat} {W H e : Int} (h : NR Z (o + 1) W H e (W * H)) (h2 : Z o 2 = W * H) (hW : 1 ≤ W ∧ W ≤ 6) (hH : 1 ≤ H ∧ H ≤ 6) : NRW Z o := by
  intro c hc
  refine ⟨?_, fun s hs => ?_⟩
  · have q := h c (by omega) 0 (by decide)
    rw [Nat.add_zero] at q
    exact q
  · have q := h c (by omega) s hs
    have lt := nx_lt (W := W) (H := H) (e := e) (c := c) (s := s) hW hH (by omega) hs
    have ge := nx_ge (W := W) (H := H) (e := e) (c := c) (s := s) hW hH (by omega) hs
    rw [q, h2]
    exact ⟨ge, lt⟩
theorem mul3 {a b : Int} (ha : 1 ≤ a ∧ a ≤ 3) (hb : 1 ≤ b ∧ b ≤ 3) : 1 ≤ a * b ∧ a * b ≤ 9 := by
  have : a = 1 ∨ a = 2 ∨ a = 3 := by omega
  rcases this with rfl | rfl | rfl <;> omega
theorem BM_76 {Z : ZT} (h : Z 76 4 = 0) : BM Z 76 4 := by
  intro _
  rw [h]
  refine SOL_f (fun k l _ _ => ?_)
  unfold FZ0
  rw [if_pos rfl]
theorem NR_9 {Z : ZT} {o : Nat} {W H e n : Int} (h : NR Z o W H e n) (hn : n = W * H) (hW : 1 ≤ W ∧ W ≤ 3) (hH : 1 ≤ H ∧ H ≤ 3) : 1 ≤ W * H ∧ W * H ≤ 9 := mul3 hW hH
def s_X10_atB : Sp := rRI 5 10 (fun as Z => match as with
    | [.inr (.inr a0), .inl a1, .inl a2, .inl a3, .inl a4] => ((a0 = 1)) ∧ (True) ∧ (True) ∧ (True) ∧ (True) ∧ (NBS Z) ∧ (NBF Z) ∧ (NBB Z) ∧ True
    | _ => False) (fun as => match as with
    | [.inr (.inr a0), .inl a1, .inl a2, .inl a3, .inl a4] => [71, 73, 5070, 5072]
    | _ => []) (fun as Z (x : Int) Z' => match as with
    | [.inr (.inr a0), .inl a1, .inl a2, .inl a3, .inl a4] => (NBB Z') ∧ True
    | _ => False)
set_option maxRecDepth 100000 in
set_option maxHeartbeats 40000000 in
theorem c_X10_atB {l : Launch} {D : va_G} {cA : Nat → ClassId} : PM l D cA yX10_at cX10_at 5 (some .int) 6 164 s_X10_atB := by
  refine of_X10_at (c_X10_isStep) ⟨rfl, rfl⟩ (c_X10_isCell) ⟨rfl, rfl⟩ (c_X10_isLetter) ⟨rfl, rfl⟩ (c_X10_reckonedN) ⟨rfl, rfl⟩ (c_X0_number) ⟨rfl, rfl⟩ (fun as σ hwf hao hpre => ?_)
  obtain ⟨n, Z, R⟩ := σ
  obtain ⟨hR, hI, hpre⟩ := hpre
  obtain rfl : R = R0 := hR
  (try replace hI : CI Z := hI)
  rcases as with _ | ⟨x | x | a0, _ | ⟨a1 | x | x, _ | ⟨a2 | x | x, _ | ⟨a3 | x | x, _ | ⟨a4 | x | x, _ | ⟨v, t⟩⟩⟩⟩⟩⟩ <;> first | exact (hpre : False).elim | skip
  obtain ⟨k1l, k1u⟩ : okI a1 := hao (vi a1) (by simp)
  obtain ⟨k2l, k2u⟩ : okI a2 := hao (vi a2) (by simp)
  obtain ⟨k3l, k3u⟩ : okI a3 := hao (vi a3) (by simp)
  obtain ⟨k4l, k4u⟩ : okI a4 := hao (vi a4) (by simp)
  obtain ⟨h0, h1, h2, h3, h4, q0, q1, q2, -⟩ := hpre
  have hk : kp ([71, 73, 5070, 5072]) Z Z := kp_refl
  refine ⟨Nat.le_of_ble_eq_true rfl, fun G hG => ?_⟩
  clear hao hwf
  (try dsimp only at q0)
  (try dsimp only at q1)
  (try dsimp only at q2)
  obtain rfl := h0
  refine wq_run hG n R0 [] 900 _ _ _ _ ?_
  repeat' (first
      | with_reducible rfl
      | ((with_reducible show NBS _); first | exact q0 | exact hnb)
      | ((with_reducible show NBF _); first | exact q1 | exact hnf)
      | ((with_reducible show FRR _); exact q0.1)
      | ((with_reducible show PLW _); exact q0.2.2.1)
      | ((with_reducible show ORD _ _); exact q0.2.2.2.2.1)
      | ((with_reducible show BM _ 70 2); exact q2.1)
      | ((with_reducible show BM _ 72 2); exact q2.2.1)
      | ((with_reducible show NBB _); exact q2)
      | refine And.intro ?_ ?_
      | with_reducible exact True.intro
      | ((with_reducible show _ = true); rfl)
      | ((with_reducible show recvG _ _); rfl)
      | ((with_reducible show CI _); first | with_reducible assumption | assumption)
      | (fail_if_success (first | (with_reducible show _ ≤ _) | (with_reducible show _ = _) | (with_reducible show _ ∨ _) | (with_reducible show _ < _) | (with_reducible show G _ _ _ _))
         first
         | show G _ _ _ _
         | (refine ld_bnd (by first | with_reducible assumption | assumption) rfl ?_; intro _ _ _ hld; (try dsimp only at hld); (try simp only [Nat.reduceAdd] at hld))
         | (refine st_k (by first | with_reducible assumption | assumption) (by first | with_reducible assumption | assumption) (by first | exact Or.inl (by decide) | exact Or.inr (by decide)) (fun lo hi hb => by first | (cases hb; done) | (cases hb; constructor <;> (first | omega | ((try dsimp only); (first | omega | (simp (disch := omega) only [w32_id, w64_id]; omega) | (simp only [w32, w64]; omega) | (with_reducible refine (and32_le ?_ ?_).1 <;> omega) | (with_reducible refine (and32_le ?_ ?_).2 <;> omega) | (with_reducible refine (mulR ?_ ?_ ?_ ?_).1 <;> omega) | (with_reducible refine (mulR ?_ ?_ ?_ ?_).2 <;> omega) | (simp only [w32, w64] at *; omega) | (simp (disch := omega) only [w32_id, w64_id] at *; omega) | (simp (disch := omega) only [tdiv_nn, tmod_nn, w32_id, w64_id] at *; omega) | (subst_vars; simp [upZ] at *; omega) | (subst_vars; simp [upZ] at *; simp only [w32, w64] at *; omega))) | fail))) ?_; intro Z' _ hkk; intro hld; (try dsimp only at hld); (try simp only [Nat.reduceAdd] at hld); intro hup; (try dsimp only at hup))
         | (refine st_k (by first | with_reducible assumption | assumption) (by first | with_reducible assumption | assumption) (by first | exact Or.inl (by decide) | exact Or.inr (by decide)) (fun lo hi hb => ?_) ?_; (cases hb; refine And.intro ?_ ?_))
         | refine st_same ?_
         | (intro (r : Option PV) σ' hq
            first
            | (obtain ⟨rfl, x, rfl, hp⟩ := hq; (try replace hp : _ ∧ _ := hp); (try dsimp only at hp))
            | (obtain ⟨Z', (o : Nat), rfl, rfl, hI2, hk2, ⟨⟨hp, rfl⟩ | ⟨hp, rfl⟩, -⟩⟩ := hq <;> ((first | have hk3 := kp_to (by first | with_reducible assumption | assumption) (by rfl) hk2 | have hk3 := ks_to (by first | with_reducible assumption | assumption) (by rfl) hk2); (first | have hnbb := NBB_kp hk2 (by rfl) (‹_ ∧ NBB _ ∧ _ ≤ _ ∧ _ ≤ _›).2.1 | have hnbb := NBB_kp (kp_of hk2) (by rfl) (‹_ ∧ NBB _ ∧ _ ≤ _ ∧ _ ≤ _›).2.1 | skip); clear hk2))
            | (obtain ⟨Z', x, rfl, rfl, hI2, hk2, hp⟩ := hq; (try replace hp : _ ∧ _ := hp); (try dsimp only at hp); (first | have hk3 := kp_to (by first | with_reducible assumption | assumption) (by rfl) hk2 | have hk3 := ks_to (by first | with_reducible assumption | assumption) (by rfl) hk2); (first | have hnbb := NBB_kp hk2 (by rfl) (‹_ ∧ NBB _ ∧ _ ≤ _ ∧ _ ≤ _›).2.1 | have hnbb := NBB_kp (kp_of hk2) (by rfl) (‹_ ∧ NBB _ ∧ _ ≤ _ ∧ _ ≤ _›).2.1 | skip); clear hk2)
            | (obtain ⟨Z', rfl, rfl, hI2, hk2, hp⟩ := hq; (try replace hp : _ ∧ _ := hp); (try dsimp only at hp); (first | have hk3 := kp_to (by first | with_reducible assumption | assumption) (by rfl) hk2 | have hk3 := ks_to (by first | with_reducible assumption | assumption) (by rfl) hk2); (first | have hnbb := NBB_kp hk2 (by rfl) (‹_ ∧ NBB _ ∧ _ ≤ _ ∧ _ ≤ _›).2.1 | have hnbb := NBB_kp (kp_of hk2) (by rfl) (‹_ ∧ NBB _ ∧ _ ≤ _ ∧ _ ≤ _›).2.1 | skip); clear hk2)
            | (obtain ⟨rfl, rfl⟩ := hq)
            | (obtain ⟨Z', x, rfl, rfl, hI2, hk2⟩ := hq; have hkn := keeps_nil hk2; clear hk2; subst hkn)
            | (obtain ⟨Z', x, rfl, rfl, hI2, hk2⟩ := hq; (first | have hk3 := kp_to (by first | with_reducible assumption | assumption) (by rfl) hk2 | have hk3 := ks_to (by first | with_reducible assumption | assumption) (by rfl) hk2); (first | have hnbb := NBB_kp hk2 (by rfl) (‹_ ∧ NBB _ ∧ _ ≤ _ ∧ _ ≤ _›).2.1 | have hnbb := NBB_kp (kp_of hk2) (by rfl) (‹_ ∧ NBB _ ∧ _ ≤ _ ∧ _ ≤ _›).2.1 | skip); clear hk2)
            | (rcases hq with ⟨Z', rfl, rfl, hI2, hk2⟩ | ⟨Z', rfl, rfl, hI2, hk2⟩ <;> ((first | have hk3 := kp_to (by first | with_reducible assumption | assumption) (by rfl) hk2 | have hk3 := ks_to (by first | with_reducible assumption | assumption) (by rfl) hk2); (first | have hnbb := NBB_kp hk2 (by rfl) (‹_ ∧ NBB _ ∧ _ ≤ _ ∧ _ ≤ _›).2.1 | have hnbb := NBB_kp (kp_of hk2) (by rfl) (‹_ ∧ NBB _ ∧ _ ≤ _ ∧ _ ≤ _›).2.1 | skip); clear hk2))
            | (obtain ⟨Z', rfl, rfl, hI2, hk2⟩ := hq; (first | have hk3 := kp_to (by first | with_reducible assumption | assumption) (by rfl) hk2 | have hk3 := ks_to (by first | with_reducible assumption | assumption) (by rfl) hk2); (first | have hnbb := NBB_kp hk2 (by rfl) (‹_ ∧ NBB _ ∧ _ ≤ _ ∧ _ ≤ _›).2.1 | have hnbb := NBB_kp (kp_of hk2) (by rfl) (‹_ ∧ NBB _ ∧ _ ≤ _ ∧ _ ≤ _›).2.1 | skip); clear hk2))
         | (intro hc; (try simp only [cmp3_c] at hc); simp only [cmpI] at hc)
         | (show CI _; assumption)
         | intro (_ : Int)
         | intro (Z' : ZT)
         | intro (_ : CI _)
         | (intro (hkk : kp _ _ _))
         | intro (_ : _ ≤ _)
         | (intro (hup : _ = upZ _ _ _ _); (try dsimp only at hup))
         | (intro (hld : _ = _); (try dsimp only at hld); (try simp only [Nat.reduceAdd] at hld))
         | intro (_ : _ < _)
         | intro (_ : _ ≠ _)
         | intro (_ : _ ∨ _)))
  all_goals first
    | with_reducible rfl
    | ((with_reducible show _ = _); rfl)
    | ((with_reducible show recvG _ _); rfl)
    | with_reducible exact trivial
    | with_reducible assumption
    | ((fail_if_success (first | (with_reducible show _ ≤ _) | (with_reducible show _ = _) | (with_reducible show _ ∨ _) | (with_reducible show _ < _) | (with_reducible show G _ _ _ _))); (refine Exists.intro _ (Exists.intro _ (And.intro rfl (And.intro rfl ?_))); refine ⟨by assumption, by assumption, ?_⟩; (refine ⟨?_, trivial⟩; (first | done | focus (first | (dsimp only; done) | ((try dsimp only); ((first | with_reducible assumption | exact q2 | exact (‹_ ∧ NBB _ ∧ _ ≤ _ ∧ _ ≤ _›).2.1 | exact hnbb | fail))))))))
    | ((fail_if_success (first | (with_reducible show _ ≤ _) | (with_reducible show _ = _) | (with_reducible show _ ∨ _) | (with_reducible show _ < _) | (with_reducible show G _ _ _ _))); (refine Exists.intro _ (Exists.intro _ (And.intro rfl (And.intro rfl ?_))); refine ⟨by assumption, by assumption, ?_⟩; simp only [Nat.reduceAdd] at *; (refine ⟨?_, trivial⟩; (first | done | focus (first | (dsimp only; done) | ((try dsimp only); ((first | with_reducible assumption | exact q2 | exact (‹_ ∧ NBB _ ∧ _ ≤ _ ∧ _ ≤ _›).2.1 | exact hnbb | fail))))))))
    | omega
    | (dsimp only; omega)
    | decide
    | (show (0 : Int) < _; omega)
    | (show (0 : Int) < _; simp only [w64] at *; omega)
    | (simp only [w32, w64] at *; omega)
    | (first | omega | ((try dsimp only); (first | omega | (simp (disch := omega) only [w32_id, w64_id]; omega) | (simp only [w32, w64]; omega) | (with_reducible refine (and32_le ?_ ?_).1 <;> omega) | (with_reducible refine (and32_le ?_ ?_).2 <;> omega) | (with_reducible refine (mulR ?_ ?_ ?_ ?_).1 <;> omega) | (with_reducible refine (mulR ?_ ?_ ?_ ?_).2 <;> omega) | (simp only [w32, w64] at *; omega) | (simp (disch := omega) only [w32_id, w64_id] at *; omega) | (simp (disch := omega) only [tdiv_nn, tmod_nn, w32_id, w64_id] at *; omega) | (subst_vars; simp [upZ] at *; omega) | (subst_vars; simp [upZ] at *; simp only [w32, w64] at *; omega))) | fail)
    | ((with_reducible show swT _ _ _ _); exact trivial)
    | rfl
    | ((fail_if_success (first | (with_reducible show _ ≤ _) | (with_reducible show _ = _) | (with_reducible show _ ∨ _) | (with_reducible show _ < _) | (with_reducible show G _ _ _ _) | (with_reducible show Exists _))); exact trivial)
    | skip
def s_X10_sumB : Sp := rRL 4 10 (fun as Z => match as with
    | [.inr (.inr a0), .inl a1, .inl a2, .inl a3] => ((a0 = 1)) ∧ (True) ∧ (True) ∧ (True) ∧ (NBS Z) ∧ (NBF Z) ∧ (NBB Z) ∧ True
    | _ => False) (fun as => match as with
    | [.inr (.inr a0), .inl a1, .inl a2, .inl a3] => [71, 73, 5070, 5072]
    | _ => []) (fun as Z (x : Int) Z' => match as with
    | [.inr (.inr a0), .inl a1, .inl a2, .inl a3] => (NBB Z') ∧ True
    | _ => False)
set_option maxRecDepth 100000 in
set_option maxHeartbeats 40000000 in
theorem c_X10_sumB {l : Launch} {D : va_G} {cA : Nat → ClassId} : PM l D cA yX10_sum cX10_sum 8 (some .long) 6 164 s_X10_sumB := by
  refine of_X10_sum (c_X10_isStep) ⟨rfl, rfl⟩ (c_X10_isLetter) ⟨rfl, rfl⟩ (c_X10_reckonedN) ⟨rfl, rfl⟩ (c_X0_rowSum) ⟨rfl, rfl⟩ (fun as σ hwf hao hpre => ?_)
  obtain ⟨n, Z, R⟩ := σ
  obtain ⟨hR, hI, hpre⟩ := hpre
  obtain rfl : R = R0 := hR
  (try replace hI : CI Z := hI)
  rcases as with _ | ⟨x | x | a0, _ | ⟨a1 | x | x, _ | ⟨a2 | x | x, _ | ⟨a3 | x | x, _ | ⟨v, t⟩⟩⟩⟩⟩ <;> first | exact (hpre : False).elim | skip
  obtain ⟨k1l, k1u⟩ : okI a1 := hao (vi a1) (by simp)
  obtain ⟨k2l, k2u⟩ : okI a2 := hao (vi a2) (by simp)
  obtain ⟨k3l, k3u⟩ : okI a3 := hao (vi a3) (by simp)
  obtain ⟨h0, h1, h2, h3, q0, q1, q2, -⟩ := hpre
  have hk : kp ([71, 73, 5070, 5072]) Z Z := kp_refl
  refine ⟨Nat.le_of_ble_eq_true rfl, fun G hG => ?_⟩
  clear hao hwf
  (try dsimp only at q0)
  (try dsimp only at q1)
  (try dsimp only at q2)
  obtain rfl := h0
  rcases Decidable.em (a1 = 0) with hz | hz
  · have loop : ∀ fuel : Nat, (∀ (Z1 : ZT) (v5 : Int) (v7 : Int), CI Z1 → kp ([71, 73, 5070, 5072]) Z Z1 → ((0 ≤ v7 ∧ v7 ≤ 6) ∧ (NBB Z1) ∧ True) → 7 - v7 ≤ (fuel : Int) → G 32 [(0, vr 1), (1, vi a1), (2, vi a2), (3, vi a3), (4, vr 72), (5, vl v5), (7, vi v7)] [] (n, Z1, R0)) := by
      intro fuel
      induction fuel with
      | zero => exact (by intros; omega)
      | succ fuel ih =>
        have ih32 := ih
        · intro Z1 v5 v7 hI1 hk1 hv hm
          obtain ⟨w0, w1, -⟩ := hv
          clear hk hI
          refine wq_run hG n R0 [32] 900 _ _ _ _ ?_
          repeat' (first
              | with_reducible rfl
              | ((with_reducible show NBS _); first | exact q0 | exact hnb)
              | ((with_reducible show NBF _); first | exact q1 | exact hnf)
              | ((with_reducible show FRR _); exact q0.1)
              | ((with_reducible show PLW _); exact q0.2.2.1)
              | ((with_reducible show ORD _ _); exact q0.2.2.2.2.1)
              | ((with_reducible show BM _ 70 2); exact q2.1)
              | ((with_reducible show BM _ 72 2); exact q2.2.1)
              | ((with_reducible show NBB _); exact q2)
              | refine And.intro ?_ ?_
              | with_reducible exact True.intro
              | ((with_reducible show _ = true); rfl)
              | ((with_reducible show recvG _ _); rfl)
              | ((with_reducible show CI _); first | with_reducible assumption | assumption)
              | (fail_if_success (first | (with_reducible show _ ≤ _) | (with_reducible show _ = _) | (with_reducible show _ ∨ _) | (with_reducible show _ < _) | (with_reducible show G _ _ _ _))
                 first
                 | show G _ _ _ _
                 | (refine ld_bnd (by first | with_reducible assumption | assumption) rfl ?_; intro _ _ _ hld; (try dsimp only at hld); (try simp only [Nat.reduceAdd] at hld))
                 | (refine st_k (by first | with_reducible assumption | assumption) (by first | with_reducible assumption | assumption) (by first | exact Or.inl (by decide) | exact Or.inr (by decide)) (fun lo hi hb => by first | (cases hb; done) | (cases hb; constructor <;> (first | omega | ((try dsimp only); (first | omega | (simp (disch := omega) only [w32_id, w64_id]; omega) | (simp only [w32, w64]; omega) | (with_reducible refine (and32_le ?_ ?_).1 <;> omega) | (with_reducible refine (and32_le ?_ ?_).2 <;> omega) | (with_reducible refine (mulR ?_ ?_ ?_ ?_).1 <;> omega) | (with_reducible refine (mulR ?_ ?_ ?_ ?_).2 <;> omega) | (simp only [w32, w64] at *; omega) | (simp (disch := omega) only [w32_id, w64_id] at *; omega) | (simp (disch := omega) only [tdiv_nn, tmod_nn, w32_id, w64_id] at *; omega) | (subst_vars; simp [upZ] at *; omega) | (subst_vars; simp [upZ] at *; simp only [w32, w64] at *; omega))) | fail))) ?_; intro Z' _ hkk; intro hld; (try dsimp only at hld); (try simp only [Nat.reduceAdd] at hld); intro hup; (try dsimp only at hup))
                 | (refine st_k (by first | with_reducible assumption | assumption) (by first | with_reducible assumption | assumption) (by first | exact Or.inl (by decide) | exact Or.inr (by decide)) (fun lo hi hb => ?_) ?_; (cases hb; refine And.intro ?_ ?_))
                 | refine st_same ?_
                 | (intro (r : Option PV) σ' hq
                    first
                    | (obtain ⟨rfl, x, rfl, hp⟩ := hq; (try replace hp : _ ∧ _ := hp); (try dsimp only at hp))
                    | (obtain ⟨Z', (o : Nat), rfl, rfl, hI2, hk2, ⟨⟨hp, rfl⟩ | ⟨hp, rfl⟩, -⟩⟩ := hq <;> ((first | have hk3 := kp_to (by first | with_reducible assumption | assumption) (by rfl) hk2 | have hk3 := ks_to (by first | with_reducible assumption | assumption) (by rfl) hk2); (first | have hnbb := NBB_kp hk2 (by rfl) (‹_ ∧ NBB _ ∧ _ ≤ _ ∧ _ ≤ _›).2.1 | have hnbb := NBB_kp (kp_of hk2) (by rfl) (‹_ ∧ NBB _ ∧ _ ≤ _ ∧ _ ≤ _›).2.1 | skip); clear hk2))
                    | (obtain ⟨Z', x, rfl, rfl, hI2, hk2, hp⟩ := hq; (try replace hp : _ ∧ _ := hp); (try dsimp only at hp); (first | have hk3 := kp_to (by first | with_reducible assumption | assumption) (by rfl) hk2 | have hk3 := ks_to (by first | with_reducible assumption | assumption) (by rfl) hk2); (first | have hnbb := NBB_kp hk2 (by rfl) (‹_ ∧ NBB _ ∧ _ ≤ _ ∧ _ ≤ _›).2.1 | have hnbb := NBB_kp (kp_of hk2) (by rfl) (‹_ ∧ NBB _ ∧ _ ≤ _ ∧ _ ≤ _›).2.1 | skip); clear hk2)
                    | (obtain ⟨Z', rfl, rfl, hI2, hk2, hp⟩ := hq; (try replace hp : _ ∧ _ := hp); (try dsimp only at hp); (first | have hk3 := kp_to (by first | with_reducible assumption | assumption) (by rfl) hk2 | have hk3 := ks_to (by first | with_reducible assumption | assumption) (by rfl) hk2); (first | have hnbb := NBB_kp hk2 (by rfl) (‹_ ∧ NBB _ ∧ _ ≤ _ ∧ _ ≤ _›).2.1 | have hnbb := NBB_kp (kp_of hk2) (by rfl) (‹_ ∧ NBB _ ∧ _ ≤ _ ∧ _ ≤ _›).2.1 | skip); clear hk2)
                    | (obtain ⟨rfl, rfl⟩ := hq)
                    | (obtain ⟨Z', x, rfl, rfl, hI2, hk2⟩ := hq; have hkn := keeps_nil hk2; clear hk2; subst hkn)
                    | (obtain ⟨Z', x, rfl, rfl, hI2, hk2⟩ := hq; (first | have hk3 := kp_to (by first | with_reducible assumption | assumption) (by rfl) hk2 | have hk3 := ks_to (by first | with_reducible assumption | assumption) (by rfl) hk2); (first | have hnbb := NBB_kp hk2 (by rfl) (‹_ ∧ NBB _ ∧ _ ≤ _ ∧ _ ≤ _›).2.1 | have hnbb := NBB_kp (kp_of hk2) (by rfl) (‹_ ∧ NBB _ ∧ _ ≤ _ ∧ _ ≤ _›).2.1 | skip); clear hk2)
                    | (rcases hq with ⟨Z', rfl, rfl, hI2, hk2⟩ | ⟨Z', rfl, rfl, hI2, hk2⟩ <;> ((first | have hk3 := kp_to (by first | with_reducible assumption | assumption) (by rfl) hk2 | have hk3 := ks_to (by first | with_reducible assumption | assumption) (by rfl) hk2); (first | have hnbb := NBB_kp hk2 (by rfl) (‹_ ∧ NBB _ ∧ _ ≤ _ ∧ _ ≤ _›).2.1 | have hnbb := NBB_kp (kp_of hk2) (by rfl) (‹_ ∧ NBB _ ∧ _ ≤ _ ∧ _ ≤ _›).2.1 | skip); clear hk2))
                    | (obtain ⟨Z', rfl, rfl, hI2, hk2⟩ := hq; (first | have hk3 := kp_to (by first | with_reducible assumption | assumption) (by rfl) hk2 | have hk3 := ks_to (by first | with_reducible assumption | assumption) (by rfl) hk2); (first | have hnbb := NBB_kp hk2 (by rfl) (‹_ ∧ NBB _ ∧ _ ≤ _ ∧ _ ≤ _›).2.1 | have hnbb := NBB_kp (kp_of hk2) (by rfl) (‹_ ∧ NBB _ ∧ _ ≤ _ ∧ _ ≤ _›).2.1 | skip); clear hk2))
                 | (intro hc; (try simp only [cmp3_c] at hc); simp only [cmpI] at hc)
                 | (show CI _; assumption)
                 | intro (_ : Int)
                 | intro (Z' : ZT)
                 | intro (_ : CI _)
                 | (intro (hkk : kp _ _ _))
                 | intro (_ : _ ≤ _)
                 | (intro (hup : _ = upZ _ _ _ _); (try dsimp only at hup))
                 | (intro (hld : _ = _); (try dsimp only at hld); (try simp only [Nat.reduceAdd] at hld))
                 | intro (_ : _ < _)
                 | intro (_ : _ ≠ _)
                 | intro (_ : _ ∨ _)))
          all_goals first
            | ((with_reducible show G 32 _ _ _); refine hG.2 32 _ [(0, vr 1), (1, vi a1), (2, vi a2), (3, vi a3), (4, vr 72), (5, vl _), (7, vi _)] _ _ rfl ?_)
            | ((fail_if_success (first | (with_reducible show _ ≤ _) | (with_reducible show _ = _) | (with_reducible show _ ∨ _) | (with_reducible show _ < _))); first | refine hG.2 32 _ [(0, vr 1), (1, vi a1), (2, vi a2), (3, vi a3), (4, vr 72), (5, vl _), (7, vi _)] _ _ rfl ?_)
            | skip
          all_goals first
            | with_reducible rfl
            | ((with_reducible show _ = _); rfl)
            | ((with_reducible show recvG _ _); rfl)
            | ((with_reducible show G 32 _ _ _); refine ih32 _ _ _ ?_ ?_ ?_ ?_; assumption; assumption; (refine ⟨?_, ?_, trivial⟩; (first | done | focus (first | (dsimp only; done) | ((try dsimp only); (first | omega | (refine ⟨?_, ?_⟩ <;> (first | omega | ((try dsimp only); (first | omega | (simp (disch := omega) only [w32_id, w64_id]; omega) | (simp only [w32, w64]; omega) | (with_reducible refine (and32_le ?_ ?_).1 <;> omega) | (with_reducible refine (and32_le ?_ ?_).2 <;> omega) | (with_reducible refine (mulR ?_ ?_ ?_ ?_).1 <;> omega) | (with_reducible refine (mulR ?_ ?_ ?_ ?_).2 <;> omega) | (simp only [w32, w64] at *; omega) | (simp (disch := omega) only [w32_id, w64_id] at *; omega) | (simp (disch := omega) only [tdiv_nn, tmod_nn, w32_id, w64_id] at *; omega) | (subst_vars; simp [upZ] at *; omega) | (subst_vars; simp [upZ] at *; simp only [w32, w64] at *; omega))) | fail)) | (first | omega | ((try dsimp only); (first | omega | (simp (disch := omega) only [w32_id, w64_id]; omega) | (simp only [w32, w64]; omega) | (with_reducible refine (and32_le ?_ ?_).1 <;> omega) | (with_reducible refine (and32_le ?_ ?_).2 <;> omega) | (with_reducible refine (mulR ?_ ?_ ?_ ?_).1 <;> omega) | (with_reducible refine (mulR ?_ ?_ ?_ ?_).2 <;> omega) | (simp only [w32, w64] at *; omega) | (simp (disch := omega) only [w32_id, w64_id] at *; omega) | (simp (disch := omega) only [tdiv_nn, tmod_nn, w32_id, w64_id] at *; omega) | (subst_vars; simp [upZ] at *; omega) | (subst_vars; simp [upZ] at *; simp only [w32, w64] at *; omega))) | fail) | fail)))); (first | done | focus (first | (dsimp only; done) | ((try dsimp only); ((first | with_reducible assumption | exact (‹_ ∧ NBB _ ∧ _ ≤ _ ∧ _ ≤ _›).2.1 | exact hnbb | fail)))))); (first | omega | ((try dsimp only); (first | omega | (simp (disch := omega) only [w32_id, w64_id]; omega) | (simp only [w32, w64]; omega) | (with_reducible refine (and32_le ?_ ?_).1 <;> omega) | (with_reducible refine (and32_le ?_ ?_).2 <;> omega) | (with_reducible refine (mulR ?_ ?_ ?_ ?_).1 <;> omega) | (with_reducible refine (mulR ?_ ?_ ?_ ?_).2 <;> omega) | (simp only [w32, w64] at *; omega) | (simp (disch := omega) only [w32_id, w64_id] at *; omega) | (simp (disch := omega) only [tdiv_nn, tmod_nn, w32_id, w64_id] at *; omega) | (subst_vars; simp [upZ] at *; omega) | (subst_vars; simp [upZ] at *; simp only [w32, w64] at *; omega))) | fail))
            | with_reducible exact trivial
            | with_reducible assumption
            | ((fail_if_success (first | (with_reducible show _ ≤ _) | (with_reducible show _ = _) | (with_reducible show _ ∨ _) | (with_reducible show _ < _) | (with_reducible show G _ _ _ _))); (refine Exists.intro _ (Exists.intro _ (And.intro rfl (And.intro rfl ?_))); refine ⟨by assumption, by assumption, ?_⟩; (refine ⟨?_, trivial⟩; (first | done | focus (first | (dsimp only; done) | ((try dsimp only); ((first | with_reducible assumption | exact q2 | exact (‹_ ∧ NBB _ ∧ _ ≤ _ ∧ _ ≤ _›).2.1 | exact hnbb | fail))))))))
            | ((fail_if_success (first | (with_reducible show _ ≤ _) | (with_reducible show _ = _) | (with_reducible show _ ∨ _) | (with_reducible show _ < _) | (with_reducible show G _ _ _ _))); (refine Exists.intro _ (Exists.intro _ (And.intro rfl (And.intro rfl ?_))); refine ⟨by assumption, by assumption, ?_⟩; simp only [Nat.reduceAdd] at *; (refine ⟨?_, trivial⟩; (first | done | focus (first | (dsimp only; done) | ((try dsimp only); ((first | with_reducible assumption | exact q2 | exact (‹_ ∧ NBB _ ∧ _ ≤ _ ∧ _ ≤ _›).2.1 | exact hnbb | fail))))))))
            | omega
            | (dsimp only; omega)
            | decide
            | (show (0 : Int) < _; omega)
            | (show (0 : Int) < _; simp only [w64] at *; omega)
            | (simp only [w32, w64] at *; omega)
            | (first | omega | ((try dsimp only); (first | omega | (simp (disch := omega) only [w32_id, w64_id]; omega) | (simp only [w32, w64]; omega) | (with_reducible refine (and32_le ?_ ?_).1 <;> omega) | (with_reducible refine (and32_le ?_ ?_).2 <;> omega) | (with_reducible refine (mulR ?_ ?_ ?_ ?_).1 <;> omega) | (with_reducible refine (mulR ?_ ?_ ?_ ?_).2 <;> omega) | (simp only [w32, w64] at *; omega) | (simp (disch := omega) only [w32_id, w64_id] at *; omega) | (simp (disch := omega) only [tdiv_nn, tmod_nn, w32_id, w64_id] at *; omega) | (subst_vars; simp [upZ] at *; omega) | (subst_vars; simp [upZ] at *; simp only [w32, w64] at *; omega))) | fail)
            | ((with_reducible show swT _ _ _ _); exact trivial)
            | rfl
            | ((fail_if_success (first | (with_reducible show _ ≤ _) | (with_reducible show _ = _) | (with_reducible show _ ∨ _) | (with_reducible show _ < _) | (with_reducible show G _ _ _ _) | (with_reducible show Exists _))); exact trivial)
            | skip
    refine wq_run hG n R0 [32] 900 _ _ _ _ ?_
    repeat' (first
        | with_reducible rfl
        | ((with_reducible show NBS _); first | exact q0 | exact hnb)
        | ((with_reducible show NBF _); first | exact q1 | exact hnf)
        | ((with_reducible show FRR _); exact q0.1)
        | ((with_reducible show PLW _); exact q0.2.2.1)
        | ((with_reducible show ORD _ _); exact q0.2.2.2.2.1)
        | ((with_reducible show BM _ 70 2); exact q2.1)
        | ((with_reducible show BM _ 72 2); exact q2.2.1)
        | ((with_reducible show NBB _); exact q2)
        | refine And.intro ?_ ?_
        | with_reducible exact True.intro
        | ((with_reducible show _ = true); rfl)
        | ((with_reducible show recvG _ _); rfl)
        | ((with_reducible show CI _); first | with_reducible assumption | assumption)
        | (fail_if_success (first | (with_reducible show _ ≤ _) | (with_reducible show _ = _) | (with_reducible show _ ∨ _) | (with_reducible show _ < _) | (with_reducible show G _ _ _ _))
           first
           | show G _ _ _ _
           | (refine ld_bnd (by first | with_reducible assumption | assumption) rfl ?_; intro _ _ _ hld; (try dsimp only at hld); (try simp only [Nat.reduceAdd] at hld))
           | (refine st_k (by first | with_reducible assumption | assumption) (by first | with_reducible assumption | assumption) (by first | exact Or.inl (by decide) | exact Or.inr (by decide)) (fun lo hi hb => by first | (cases hb; done) | (cases hb; constructor <;> (first | omega | ((try dsimp only); (first | omega | (simp (disch := omega) only [w32_id, w64_id]; omega) | (simp only [w32, w64]; omega) | (with_reducible refine (and32_le ?_ ?_).1 <;> omega) | (with_reducible refine (and32_le ?_ ?_).2 <;> omega) | (with_reducible refine (mulR ?_ ?_ ?_ ?_).1 <;> omega) | (with_reducible refine (mulR ?_ ?_ ?_ ?_).2 <;> omega) | (simp only [w32, w64] at *; omega) | (simp (disch := omega) only [w32_id, w64_id] at *; omega) | (simp (disch := omega) only [tdiv_nn, tmod_nn, w32_id, w64_id] at *; omega) | (subst_vars; simp [upZ] at *; omega) | (subst_vars; simp [upZ] at *; simp only [w32, w64] at *; omega))) | fail))) ?_; intro Z' _ hkk; intro hld; (try dsimp only at hld); (try simp only [Nat.reduceAdd] at hld); intro hup; (try dsimp only at hup))
           | (refine st_k (by first | with_reducible assumption | assumption) (by first | with_reducible assumption | assumption) (by first | exact Or.inl (by decide) | exact Or.inr (by decide)) (fun lo hi hb => ?_) ?_; (cases hb; refine And.intro ?_ ?_))
           | refine st_same ?_
           | (intro (r : Option PV) σ' hq
              first
              | (obtain ⟨rfl, x, rfl, hp⟩ := hq; (try replace hp : _ ∧ _ := hp); (try dsimp only at hp))
              | (obtain ⟨Z', (o : Nat), rfl, rfl, hI2, hk2, ⟨⟨hp, rfl⟩ | ⟨hp, rfl⟩, -⟩⟩ := hq <;> ((first | have hk3 := kp_to (by first | with_reducible assumption | assumption) (by rfl) hk2 | have hk3 := ks_to (by first | with_reducible assumption | assumption) (by rfl) hk2); (first | have hnbb := NBB_kp hk2 (by rfl) (‹_ ∧ NBB _ ∧ _ ≤ _ ∧ _ ≤ _›).2.1 | have hnbb := NBB_kp (kp_of hk2) (by rfl) (‹_ ∧ NBB _ ∧ _ ≤ _ ∧ _ ≤ _›).2.1 | skip); clear hk2))
              | (obtain ⟨Z', x, rfl, rfl, hI2, hk2, hp⟩ := hq; (try replace hp : _ ∧ _ := hp); (try dsimp only at hp); (first | have hk3 := kp_to (by first | with_reducible assumption | assumption) (by rfl) hk2 | have hk3 := ks_to (by first | with_reducible assumption | assumption) (by rfl) hk2); (first | have hnbb := NBB_kp hk2 (by rfl) (‹_ ∧ NBB _ ∧ _ ≤ _ ∧ _ ≤ _›).2.1 | have hnbb := NBB_kp (kp_of hk2) (by rfl) (‹_ ∧ NBB _ ∧ _ ≤ _ ∧ _ ≤ _›).2.1 | skip); clear hk2)
              | (obtain ⟨Z', rfl, rfl, hI2, hk2, hp⟩ := hq; (try replace hp : _ ∧ _ := hp); (try dsimp only at hp); (first | have hk3 := kp_to (by first | with_reducible assumption | assumption) (by rfl) hk2 | have hk3 := ks_to (by first | with_reducible assumption | assumption) (by rfl) hk2); (first | have hnbb := NBB_kp hk2 (by rfl) (‹_ ∧ NBB _ ∧ _ ≤ _ ∧ _ ≤ _›).2.1 | have hnbb := NBB_kp (kp_of hk2) (by rfl) (‹_ ∧ NBB _ ∧ _ ≤ _ ∧ _ ≤ _›).2.1 | skip); clear hk2)
              | (obtain ⟨rfl, rfl⟩ := hq)
              | (obtain ⟨Z', x, rfl, rfl, hI2, hk2⟩ := hq; have hkn := keeps_nil hk2; clear hk2; subst hkn)
              | (obtain ⟨Z', x, rfl, rfl, hI2, hk2⟩ := hq; (first | have hk3 := kp_to (by first | with_reducible assumption | assumption) (by rfl) hk2 | have hk3 := ks_to (by first | with_reducible assumption | assumption) (by rfl) hk2); (first | have hnbb := NBB_kp hk2 (by rfl) (‹_ ∧ NBB _ ∧ _ ≤ _ ∧ _ ≤ _›).2.1 | have hnbb := NBB_kp (kp_of hk2) (by rfl) (‹_ ∧ NBB _ ∧ _ ≤ _ ∧ _ ≤ _›).2.1 | skip); clear hk2)
              | (rcases hq with ⟨Z', rfl, rfl, hI2, hk2⟩ | ⟨Z', rfl, rfl, hI2, hk2⟩ <;> ((first | have hk3 := kp_to (by first | with_reducible assumption | assumption) (by rfl) hk2 | have hk3 := ks_to (by first | with_reducible assumption | assumption) (by rfl) hk2); (first | have hnbb := NBB_kp hk2 (by rfl) (‹_ ∧ NBB _ ∧ _ ≤ _ ∧ _ ≤ _›).2.1 | have hnbb := NBB_kp (kp_of hk2) (by rfl) (‹_ ∧ NBB _ ∧ _ ≤ _ ∧ _ ≤ _›).2.1 | skip); clear hk2))
              | (obtain ⟨Z', rfl, rfl, hI2, hk2⟩ := hq; (first | have hk3 := kp_to (by first | with_reducible assumption | assumption) (by rfl) hk2 | have hk3 := ks_to (by first | with_reducible assumption | assumption) (by rfl) hk2); (first | have hnbb := NBB_kp hk2 (by rfl) (‹_ ∧ NBB _ ∧ _ ≤ _ ∧ _ ≤ _›).2.1 | have hnbb := NBB_kp (kp_of hk2) (by rfl) (‹_ ∧ NBB _ ∧ _ ≤ _ ∧ _ ≤ _›).2.1 | skip); clear hk2))
           | (intro hc; (try simp only [cmp3_c] at hc); simp only [cmpI] at hc)
           | (show CI _; assumption)
           | intro (_ : Int)
           | intro (Z' : ZT)
           | intro (_ : CI _)
           | (intro (hkk : kp _ _ _))
           | intro (_ : _ ≤ _)
           | (intro (hup : _ = upZ _ _ _ _); (try dsimp only at hup))
           | (intro (hld : _ = _); (try dsimp only at hld); (try simp only [Nat.reduceAdd] at hld))
           | intro (_ : _ < _)
           | intro (_ : _ ≠ _)
           | intro (_ : _ ∨ _)))
    all_goals (have lp32 := loop 1000000)
    all_goals first
      | ((with_reducible show G 32 _ _ _); refine hG.2 32 _ [(0, vr 1), (1, vi a1), (2, vi a2), (3, vi a3), (4, vr 72), (5, vl _), (7, vi _)] _ _ rfl ?_)
      | ((fail_if_success (first | (with_reducible show _ ≤ _) | (with_reducible show _ = _) | (with_reducible show _ ∨ _) | (with_reducible show _ < _))); first | refine hG.2 32 _ [(0, vr 1), (1, vi a1), (2, vi a2), (3, vi a3), (4, vr 72), (5, vl _), (7, vi _)] _ _ rfl ?_)
      | skip
    all_goals first
      | with_reducible rfl
      | ((with_reducible show _ = _); rfl)
      | ((with_reducible show recvG _ _); rfl)
      | ((with_reducible show G 32 _ _ _); refine lp32 _ _ _ ?_ ?_ ?_ ?_; assumption; assumption; (refine ⟨?_, ?_, trivial⟩; (first | done | focus (first | (dsimp only; done) | ((try dsimp only); (first | omega | (refine ⟨?_, ?_⟩ <;> (first | omega | ((try dsimp only); (first | omega | (simp (disch := omega) only [w32_id, w64_id]; omega) | (simp only [w32, w64]; omega) | (with_reducible refine (and32_le ?_ ?_).1 <;> omega) | (with_reducible refine (and32_le ?_ ?_).2 <;> omega) | (with_reducible refine (mulR ?_ ?_ ?_ ?_).1 <;> omega) | (with_reducible refine (mulR ?_ ?_ ?_ ?_).2 <;> omega) | (simp only [w32, w64] at *; omega) | (simp (disch := omega) only [w32_id, w64_id] at *; omega) | (simp (disch := omega) only [tdiv_nn, tmod_nn, w32_id, w64_id] at *; omega) | (subst_vars; simp [upZ] at *; omega) | (subst_vars; simp [upZ] at *; simp only [w32, w64] at *; omega))) | fail)) | (first | omega | ((try dsimp only); (first | omega | (simp (disch := omega) only [w32_id, w64_id]; omega) | (simp only [w32, w64]; omega) | (with_reducible refine (and32_le ?_ ?_).1 <;> omega) | (with_reducible refine (and32_le ?_ ?_).2 <;> omega) | (with_reducible refine (mulR ?_ ?_ ?_ ?_).1 <;> omega) | (with_reducible refine (mulR ?_ ?_ ?_ ?_).2 <;> omega) | (simp only [w32, w64] at *; omega) | (simp (disch := omega) only [w32_id, w64_id] at *; omega) | (simp (disch := omega) only [tdiv_nn, tmod_nn, w32_id, w64_id] at *; omega) | (subst_vars; simp [upZ] at *; omega) | (subst_vars; simp [upZ] at *; simp only [w32, w64] at *; omega))) | fail) | fail)))); (first | done | focus (first | (dsimp only; done) | ((try dsimp only); ((first | with_reducible assumption | exact (‹_ ∧ NBB _ ∧ _ ≤ _ ∧ _ ≤ _›).2.1 | exact hnbb | fail)))))); (first | omega | ((try dsimp only); (first | omega | (simp (disch := omega) only [w32_id, w64_id]; omega) | (simp only [w32, w64]; omega) | (with_reducible refine (and32_le ?_ ?_).1 <;> omega) | (with_reducible refine (and32_le ?_ ?_).2 <;> omega) | (with_reducible refine (mulR ?_ ?_ ?_ ?_).1 <;> omega) | (with_reducible refine (mulR ?_ ?_ ?_ ?_).2 <;> omega) | (simp only [w32, w64] at *; omega) | (simp (disch := omega) only [w32_id, w64_id] at *; omega) | (simp (disch := omega) only [tdiv_nn, tmod_nn, w32_id, w64_id] at *; omega) | (subst_vars; simp [upZ] at *; omega) | (subst_vars; simp [upZ] at *; simp only [w32, w64] at *; omega))) | fail))
      | with_reducible exact trivial
      | with_reducible assumption
      | ((fail_if_success (first | (with_reducible show _ ≤ _) | (with_reducible show _ = _) | (with_reducible show _ ∨ _) | (with_reducible show _ < _) | (with_reducible show G _ _ _ _))); (refine Exists.intro _ (Exists.intro _ (And.intro rfl (And.intro rfl ?_))); refine ⟨by assumption, by assumption, ?_⟩; (refine ⟨?_, trivial⟩; (first | done | focus (first | (dsimp only; done) | ((try dsimp only); ((first | with_reducible assumption | exact q2 | exact (‹_ ∧ NBB _ ∧ _ ≤ _ ∧ _ ≤ _›).2.1 | exact hnbb | fail))))))))
      | ((fail_if_success (first | (with_reducible show _ ≤ _) | (with_reducible show _ = _) | (with_reducible show _ ∨ _) | (with_reducible show _ < _) | (with_reducible show G _ _ _ _))); (refine Exists.intro _ (Exists.intro _ (And.intro rfl (And.intro rfl ?_))); refine ⟨by assumption, by assumption, ?_⟩; simp only [Nat.reduceAdd] at *; (refine ⟨?_, trivial⟩; (first | done | focus (first | (dsimp only; done) | ((try dsimp only); ((first | with_reducible assumption | exact q2 | exact (‹_ ∧ NBB _ ∧ _ ≤ _ ∧ _ ≤ _›).2.1 | exact hnbb | fail))))))))
      | omega
      | (dsimp only; omega)
      | decide
      | (show (0 : Int) < _; omega)
      | (show (0 : Int) < _; simp only [w64] at *; omega)
      | (simp only [w32, w64] at *; omega)
      | (first | omega | ((try dsimp only); (first | omega | (simp (disch := omega) only [w32_id, w64_id]; omega) | (simp only [w32, w64]; omega) | (with_reducible refine (and32_le ?_ ?_).1 <;> omega) | (with_reducible refine (and32_le ?_ ?_).2 <;> omega) | (with_reducible refine (mulR ?_ ?_ ?_ ?_).1 <;> omega) | (with_reducible refine (mulR ?_ ?_ ?_ ?_).2 <;> omega) | (simp only [w32, w64] at *; omega) | (simp (disch := omega) only [w32_id, w64_id] at *; omega) | (simp (disch := omega) only [tdiv_nn, tmod_nn, w32_id, w64_id] at *; omega) | (subst_vars; simp [upZ] at *; omega) | (subst_vars; simp [upZ] at *; simp only [w32, w64] at *; omega))) | fail)
      | ((with_reducible show swT _ _ _ _); exact trivial)
      | rfl
      | ((fail_if_success (first | (with_reducible show _ ≤ _) | (with_reducible show _ = _) | (with_reducible show _ ∨ _) | (with_reducible show _ < _) | (with_reducible show G _ _ _ _) | (with_reducible show Exists _))); exact trivial)
      | skip
  · have loop : ∀ fuel : Nat, (∀ (Z1 : ZT) (v5 : Int) (v7 : Int), CI Z1 → kp ([71, 73, 5070, 5072]) Z Z1 → ((0 ≤ v7 ∧ v7 ≤ 6) ∧ (NBB Z1) ∧ True) → 7 - v7 ≤ (fuel : Int) → G 32 [(0, vr 1), (1, vi a1), (2, vi a2), (3, vi a3), (4, vr 70), (5, vl v5), (7, vi v7)] [] (n, Z1, R0)) := by
      intro fuel
      induction fuel with
      | zero => exact (by intros; omega)
      | succ fuel ih =>
        have ih32 := ih
        · intro Z1 v5 v7 hI1 hk1 hv hm
          obtain ⟨w0, w1, -⟩ := hv
          clear hk hI
          refine wq_run hG n R0 [32] 900 _ _ _ _ ?_
          repeat' (first
              | with_reducible rfl
              | ((with_reducible show NBS _); first | exact q0 | exact hnb)
              | ((with_reducible show NBF _); first | exact q1 | exact hnf)
              | ((with_reducible show FRR _); exact q0.1)
              | ((with_reducible show PLW _); exact q0.2.2.1)
              | ((with_reducible show ORD _ _); exact q0.2.2.2.2.1)
              | ((with_reducible show BM _ 70 2); exact q2.1)
              | ((with_reducible show BM _ 72 2); exact q2.2.1)
              | ((with_reducible show NBB _); exact q2)
              | refine And.intro ?_ ?_
              | with_reducible exact True.intro
              | ((with_reducible show _ = true); rfl)
              | ((with_reducible show recvG _ _); rfl)
              | ((with_reducible show CI _); first | with_reducible assumption | assumption)
              | (fail_if_success (first | (with_reducible show _ ≤ _) | (with_reducible show _ = _) | (with_reducible show _ ∨ _) | (with_reducible show _ < _) | (with_reducible show G _ _ _ _))
                 first
                 | show G _ _ _ _
                 | (refine ld_bnd (by first | with_reducible assumption | assumption) rfl ?_; intro _ _ _ hld; (try dsimp only at hld); (try simp only [Nat.reduceAdd] at hld))
                 | (refine st_k (by first | with_reducible assumption | assumption) (by first | with_reducible assumption | assumption) (by first | exact Or.inl (by decide) | exact Or.inr (by decide)) (fun lo hi hb => by first | (cases hb; done) | (cases hb; constructor <;> (first | omega | ((try dsimp only); (first | omega | (simp (disch := omega) only [w32_id, w64_id]; omega) | (simp only [w32, w64]; omega) | (with_reducible refine (and32_le ?_ ?_).1 <;> omega) | (with_reducible refine (and32_le ?_ ?_).2 <;> omega) | (with_reducible refine (mulR ?_ ?_ ?_ ?_).1 <;> omega) | (with_reducible refine (mulR ?_ ?_ ?_ ?_).2 <;> omega) | (simp only [w32, w64] at *; omega) | (simp (disch := omega) only [w32_id, w64_id] at *; omega) | (simp (disch := omega) only [tdiv_nn, tmod_nn, w32_id, w64_id] at *; omega) | (subst_vars; simp [upZ] at *; omega) | (subst_vars; simp [upZ] at *; simp only [w32, w64] at *; omega))) | fail))) ?_; intro Z' _ hkk; intro hld; (try dsimp only at hld); (try simp only [Nat.reduceAdd] at hld); intro hup; (try dsimp only at hup))
                 | (refine st_k (by first | with_reducible assumption | assumption) (by first | with_reducible assumption | assumption) (by first | exact Or.inl (by decide) | exact Or.inr (by decide)) (fun lo hi hb => ?_) ?_; (cases hb; refine And.intro ?_ ?_))
                 | refine st_same ?_
                 | (intro (r : Option PV) σ' hq
                    first
                    | (obtain ⟨rfl, x, rfl, hp⟩ := hq; (try replace hp : _ ∧ _ := hp); (try dsimp only at hp))
                    | (obtain ⟨Z', (o : Nat), rfl, rfl, hI2, hk2, ⟨⟨hp, rfl⟩ | ⟨hp, rfl⟩, -⟩⟩ := hq <;> ((first | have hk3 := kp_to (by first | with_reducible assumption | assumption) (by rfl) hk2 | have hk3 := ks_to (by first | with_reducible assumption | assumption) (by rfl) hk2); (first | have hnbb := NBB_kp hk2 (by rfl) (‹_ ∧ NBB _ ∧ _ ≤ _ ∧ _ ≤ _›).2.1 | have hnbb := NBB_kp (kp_of hk2) (by rfl) (‹_ ∧ NBB _ ∧ _ ≤ _ ∧ _ ≤ _›).2.1 | skip); clear hk2))
                    | (obtain ⟨Z', x, rfl, rfl, hI2, hk2, hp⟩ := hq; (try replace hp : _ ∧ _ := hp); (try dsimp only at hp); (first | have hk3 := kp_to (by first | with_reducible assumption | assumption) (by rfl) hk2 | have hk3 := ks_to (by first | with_reducible assumption | assumption) (by rfl) hk2); (first | have hnbb := NBB_kp hk2 (by rfl) (‹_ ∧ NBB _ ∧ _ ≤ _ ∧ _ ≤ _›).2.1 | have hnbb := NBB_kp (kp_of hk2) (by rfl) (‹_ ∧ NBB _ ∧ _ ≤ _ ∧ _ ≤ _›).2.1 | skip); clear hk2)
                    | (obtain ⟨Z', rfl, rfl, hI2, hk2, hp⟩ := hq; (try replace hp : _ ∧ _ := hp); (try dsimp only at hp); (first | have hk3 := kp_to (by first | with_reducible assumption | assumption) (by rfl) hk2 | have hk3 := ks_to (by first | with_reducible assumption | assumption) (by rfl) hk2); (first | have hnbb := NBB_kp hk2 (by rfl) (‹_ ∧ NBB _ ∧ _ ≤ _ ∧ _ ≤ _›).2.1 | have hnbb := NBB_kp (kp_of hk2) (by rfl) (‹_ ∧ NBB _ ∧ _ ≤ _ ∧ _ ≤ _›).2.1 | skip); clear hk2)
                    | (obtain ⟨rfl, rfl⟩ := hq)
                    | (obtain ⟨Z', x, rfl, rfl, hI2, hk2⟩ := hq; have hkn := keeps_nil hk2; clear hk2; subst hkn)
                    | (obtain ⟨Z', x, rfl, rfl, hI2, hk2⟩ := hq; (first | have hk3 := kp_to (by first | with_reducible assumption | assumption) (by rfl) hk2 | have hk3 := ks_to (by first | with_reducible assumption | assumption) (by rfl) hk2); (first | have hnbb := NBB_kp hk2 (by rfl) (‹_ ∧ NBB _ ∧ _ ≤ _ ∧ _ ≤ _›).2.1 | have hnbb := NBB_kp (kp_of hk2) (by rfl) (‹_ ∧ NBB _ ∧ _ ≤ _ ∧ _ ≤ _›).2.1 | skip); clear hk2)
                    | (rcases hq with ⟨Z', rfl, rfl, hI2, hk2⟩ | ⟨Z', rfl, rfl, hI2, hk2⟩ <;> ((first | have hk3 := kp_to (by first | with_reducible assumption | assumption) (by rfl) hk2 | have hk3 := ks_to (by first | with_reducible assumption | assumption) (by rfl) hk2); (first | have hnbb := NBB_kp hk2 (by rfl) (‹_ ∧ NBB _ ∧ _ ≤ _ ∧ _ ≤ _›).2.1 | have hnbb := NBB_kp (kp_of hk2) (by rfl) (‹_ ∧ NBB _ ∧ _ ≤ _ ∧ _ ≤ _›).2.1 | skip); clear hk2))
                    | (obtain ⟨Z', rfl, rfl, hI2, hk2⟩ := hq; (first | have hk3 := kp_to (by first | with_reducible assumption | assumption) (by rfl) hk2 | have hk3 := ks_to (by first | with_reducible assumption | assumption) (by rfl) hk2); (first | have hnbb := NBB_kp hk2 (by rfl) (‹_ ∧ NBB _ ∧ _ ≤ _ ∧ _ ≤ _›).2.1 | have hnbb := NBB_kp (kp_of hk2) (by rfl) (‹_ ∧ NBB _ ∧ _ ≤ _ ∧ _ ≤ _›).2.1 | skip); clear hk2))
                 | (intro hc; (try simp only [cmp3_c] at hc); simp only [cmpI] at hc)
                 | (show CI _; assumption)
                 | intro (_ : Int)
                 | intro (Z' : ZT)
                 | intro (_ : CI _)
                 | (intro (hkk : kp _ _ _))
                 | intro (_ : _ ≤ _)
                 | (intro (hup : _ = upZ _ _ _ _); (try dsimp only at hup))
                 | (intro (hld : _ = _); (try dsimp only at hld); (try simp only [Nat.reduceAdd] at hld))
                 | intro (_ : _ < _)
                 | intro (_ : _ ≠ _)
                 | intro (_ : _ ∨ _)))
          all_goals first
            | ((with_reducible show G 32 _ _ _); refine hG.2 32 _ [(0, vr 1), (1, vi a1), (2, vi a2), (3, vi a3), (4, vr 70), (5, vl _), (7, vi _)] _ _ rfl ?_)
            | ((fail_if_success (first | (with_reducible show _ ≤ _) | (with_reducible show _ = _) | (with_reducible show _ ∨ _) | (with_reducible show _ < _))); first | refine hG.2 32 _ [(0, vr 1), (1, vi a1), (2, vi a2), (3, vi a3), (4, vr 70), (5, vl _), (7, vi _)] _ _ rfl ?_)
            | skip
          all_goals first
            | with_reducible rfl
            | ((with_reducible show _ = _); rfl)
            | ((with_reducible show recvG _ _); rfl)
            | ((with_reducible show G 32 _ _ _); refine ih32 _ _ _ ?_ ?_ ?_ ?_; assumption; assumption; (refine ⟨?_, ?_, trivial⟩; (first | done | focus (first | (dsimp only; done) | ((try dsimp only); (first | omega | (refine ⟨?_, ?_⟩ <;> (first | omega | ((try dsimp only); (first | omega | (simp (disch := omega) only [w32_id, w64_id]; omega) | (simp only [w32, w64]; omega) | (with_reducible refine (and32_le ?_ ?_).1 <;> omega) | (with_reducible refine (and32_le ?_ ?_).2 <;> omega) | (with_reducible refine (mulR ?_ ?_ ?_ ?_).1 <;> omega) | (with_reducible refine (mulR ?_ ?_ ?_ ?_).2 <;> omega) | (simp only [w32, w64] at *; omega) | (simp (disch := omega) only [w32_id, w64_id] at *; omega) | (simp (disch := omega) only [tdiv_nn, tmod_nn, w32_id, w64_id] at *; omega) | (subst_vars; simp [upZ] at *; omega) | (subst_vars; simp [upZ] at *; simp only [w32, w64] at *; omega))) | fail)) | (first | omega | ((try dsimp only); (first | omega | (simp (disch := omega) only [w32_id, w64_id]; omega) | (simp only [w32, w64]; omega) | (with_reducible refine (and32_le ?_ ?_).1 <;> omega) | (with_reducible refine (and32_le ?_ ?_).2 <;> omega) | (with_reducible refine (mulR ?_ ?_ ?_ ?_).1 <;> omega) | (with_reducible refine (mulR ?_ ?_ ?_ ?_).2 <;> omega) | (simp only [w32, w64] at *; omega) | (simp (disch := omega) only [w32_id, w64_id] at *; omega) | (simp (disch := omega) only [tdiv_nn, tmod_nn, w32_id, w64_id] at *; omega) | (subst_vars; simp [upZ] at *; omega) | (subst_vars; simp [upZ] at *; simp only [w32, w64] at *; omega))) | fail) | fail)))); (first | done | focus (first | (dsimp only; done) | ((try dsimp only); ((first | with_reducible assumption | exact (‹_ ∧ NBB _ ∧ _ ≤ _ ∧ _ ≤ _›).2.1 | exact hnbb | fail)))))); (first | omega | ((try dsimp only); (first | omega | (simp (disch := omega) only [w32_id, w64_id]; omega) | (simp only [w32, w64]; omega) | (with_reducible refine (and32_le ?_ ?_).1 <;> omega) | (with_reducible refine (and32_le ?_ ?_).2 <;> omega) | (with_reducible refine (mulR ?_ ?_ ?_ ?_).1 <;> omega) | (with_reducible refine (mulR ?_ ?_ ?_ ?_).2 <;> omega) | (simp only [w32, w64] at *; omega) | (simp (disch := omega) only [w32_id, w64_id] at *; omega) | (simp (disch := omega) only [tdiv_nn, tmod_nn, w32_id, w64_id] at *; omega) | (subst_vars; simp [upZ] at *; omega) | (subst_vars; simp [upZ] at *; simp only [w32, w64] at *; omega))) | fail))
            | with_reducible exact trivial
            | with_reducible assumption
            | ((fail_if_success (first | (with_reducible show _ ≤ _) | (with_reducible show _ = _) | (with_reducible show _ ∨ _) | (with_reducible show _ < _) | (with_reducible show G _ _ _ _))); (refine Exists.intro _ (Exists.intro _ (And.intro rfl (And.intro rfl ?_))); refine ⟨by assumption, by assumption, ?_⟩; (refine ⟨?_, trivial⟩; (first | done | focus (first | (dsimp only; done) | ((try dsimp only); ((first | with_reducible assumption | exact q2 | exact (‹_ ∧ NBB _ ∧ _ ≤ _ ∧ _ ≤ _›).2.1 | exact hnbb | fail))))))))
            | ((fail_if_success (first | (with_reducible show _ ≤ _) | (with_reducible show _ = _) | (with_reducible show _ ∨ _) | (with_reducible show _ < _) | (with_reducible show G _ _ _ _))); (refine Exists.intro _ (Exists.intro _ (And.intro rfl (And.intro rfl ?_))); refine ⟨by assumption, by assumption, ?_⟩; simp only [Nat.reduceAdd] at *; (refine ⟨?_, trivial⟩; (first | done | focus (first | (dsimp only; done) | ((try dsimp only); ((first | with_reducible assumption | exact q2 | exact (‹_ ∧ NBB _ ∧ _ ≤ _ ∧ _ ≤ _›).2.1 | exact hnbb | fail))))))))
            | omega
            | (dsimp only; omega)
            | decide
            | (show (0 : Int) < _; omega)
            | (show (0 : Int) < _; simp only [w64] at *; omega)
            | (simp only [w32, w64] at *; omega)
            | (first | omega | ((try dsimp only); (first | omega | (simp (disch := omega) only [w32_id, w64_id]; omega) | (simp only [w32, w64]; omega) | (with_reducible refine (and32_le ?_ ?_).1 <;> omega) | (with_reducible refine (and32_le ?_ ?_).2 <;> omega) | (with_reducible refine (mulR ?_ ?_ ?_ ?_).1 <;> omega) | (with_reducible refine (mulR ?_ ?_ ?_ ?_).2 <;> omega) | (simp only [w32, w64] at *; omega) | (simp (disch := omega) only [w32_id, w64_id] at *; omega) | (simp (disch := omega) only [tdiv_nn, tmod_nn, w32_id, w64_id] at *; omega) | (subst_vars; simp [upZ] at *; omega) | (subst_vars; simp [upZ] at *; simp only [w32, w64] at *; omega))) | fail)
            | ((with_reducible show swT _ _ _ _); exact trivial)
            | rfl
            | ((fail_if_success (first | (with_reducible show _ ≤ _) | (with_reducible show _ = _) | (with_reducible show _ ∨ _) | (with_reducible show _ < _) | (with_reducible show G _ _ _ _) | (with_reducible show Exists _))); exact trivial)
            | skip
    refine wq_run hG n R0 [32] 900 _ _ _ _ ?_
    repeat' (first
        | with_reducible rfl
        | ((with_reducible show NBS _); first | exact q0 | exact hnb)
        | ((with_reducible show NBF _); first | exact q1 | exact hnf)
        | ((with_reducible show FRR _); exact q0.1)
        | ((with_reducible show PLW _); exact q0.2.2.1)
        | ((with_reducible show ORD _ _); exact q0.2.2.2.2.1)
        | ((with_reducible show BM _ 70 2); exact q2.1)
        | ((with_reducible show BM _ 72 2); exact q2.2.1)
        | ((with_reducible show NBB _); exact q2)
        | refine And.intro ?_ ?_
        | with_reducible exact True.intro
        | ((with_reducible show _ = true); rfl)
        | ((with_reducible show recvG _ _); rfl)
        | ((with_reducible show CI _); first | with_reducible assumption | assumption)
        | (fail_if_success (first | (with_reducible show _ ≤ _) | (with_reducible show _ = _) | (with_reducible show _ ∨ _) | (with_reducible show _ < _) | (with_reducible show G _ _ _ _))
           first
           | show G _ _ _ _
           | (refine ld_bnd (by first | with_reducible assumption | assumption) rfl ?_; intro _ _ _ hld; (try dsimp only at hld); (try simp only [Nat.reduceAdd] at hld))
           | (refine st_k (by first | with_reducible assumption | assumption) (by first | with_reducible assumption | assumption) (by first | exact Or.inl (by decide) | exact Or.inr (by decide)) (fun lo hi hb => by first | (cases hb; done) | (cases hb; constructor <;> (first | omega | ((try dsimp only); (first | omega | (simp (disch := omega) only [w32_id, w64_id]; omega) | (simp only [w32, w64]; omega) | (with_reducible refine (and32_le ?_ ?_).1 <;> omega) | (with_reducible refine (and32_le ?_ ?_).2 <;> omega) | (with_reducible refine (mulR ?_ ?_ ?_ ?_).1 <;> omega) | (with_reducible refine (mulR ?_ ?_ ?_ ?_).2 <;> omega) | (simp only [w32, w64] at *; omega) | (simp (disch := omega) only [w32_id, w64_id] at *; omega) | (simp (disch := omega) only [tdiv_nn, tmod_nn, w32_id, w64_id] at *; omega) | (subst_vars; simp [upZ] at *; omega) | (subst_vars; simp [upZ] at *; simp only [w32, w64] at *; omega))) | fail))) ?_; intro Z' _ hkk; intro hld; (try dsimp only at hld); (try simp only [Nat.reduceAdd] at hld); intro hup; (try dsimp only at hup))
           | (refine st_k (by first | with_reducible assumption | assumption) (by first | with_reducible assumption | assumption) (by first | exact Or.inl (by decide) | exact Or.inr (by decide)) (fun lo hi hb => ?_) ?_; (cases hb; refine And.intro ?_ ?_))
           | refine st_same ?_
           | (intro (r : Option PV) σ' hq
              first
              | (obtain ⟨rfl, x, rfl, hp⟩ := hq; (try replace hp : _ ∧ _ := hp); (try dsimp only at hp))
              | (obtain ⟨Z', (o : Nat), rfl, rfl, hI2, hk2, ⟨⟨hp, rfl⟩ | ⟨hp, rfl⟩, -⟩⟩ := hq <;> ((first | have hk3 := kp_to (by first | with_reducible assumption | assumption) (by rfl) hk2 | have hk3 := ks_to (by first | with_reducible assumption | assumption) (by rfl) hk2); (first | have hnbb := NBB_kp hk2 (by rfl) (‹_ ∧ NBB _ ∧ _ ≤ _ ∧ _ ≤ _›).2.1 | have hnbb := NBB_kp (kp_of hk2) (by rfl) (‹_ ∧ NBB _ ∧ _ ≤ _ ∧ _ ≤ _›).2.1 | skip); clear hk2))
              | (obtain ⟨Z', x, rfl, rfl, hI2, hk2, hp⟩ := hq; (try replace hp : _ ∧ _ := hp); (try dsimp only at hp); (first | have hk3 := kp_to (by first | with_reducible assumption | assumption) (by rfl) hk2 | have hk3 := ks_to (by first | with_reducible assumption | assumption) (by rfl) hk2); (first | have hnbb := NBB_kp hk2 (by rfl) (‹_ ∧ NBB _ ∧ _ ≤ _ ∧ _ ≤ _›).2.1 | have hnbb := NBB_kp (kp_of hk2) (by rfl) (‹_ ∧ NBB _ ∧ _ ≤ _ ∧ _ ≤ _›).2.1 | skip); clear hk2)
              | (obtain ⟨Z', rfl, rfl, hI2, hk2, hp⟩ := hq; (try replace hp : _ ∧ _ := hp); (try dsimp only at hp); (first | have hk3 := kp_to (by first | with_reducible assumption | assumption) (by rfl) hk2 | have hk3 := ks_to (by first | with_reducible assumption | assumption) (by rfl) hk2); (first | have hnbb := NBB_kp hk2 (by rfl) (‹_ ∧ NBB _ ∧ _ ≤ _ ∧ _ ≤ _›).2.1 | have hnbb := NBB_kp (kp_of hk2) (by rfl) (‹_ ∧ NBB _ ∧ _ ≤ _ ∧ _ ≤ _›).2.1 | skip); clear hk2)
              | (obtain ⟨rfl, rfl⟩ := hq)
              | (obtain ⟨Z', x, rfl, rfl, hI2, hk2⟩ := hq; have hkn := keeps_nil hk2; clear hk2; subst hkn)
              | (obtain ⟨Z', x, rfl, rfl, hI2, hk2⟩ := hq; (first | have hk3 := kp_to (by first | with_reducible assumption | assumption) (by rfl) hk2 | have hk3 := ks_to (by first | with_reducible assumption | assumption) (by rfl) hk2); (first | have hnbb := NBB_kp hk2 (by rfl) (‹_ ∧ NBB _ ∧ _ ≤ _ ∧ _ ≤ _›).2.1 | have hnbb := NBB_kp (kp_of hk2) (by rfl) (‹_ ∧ NBB _ ∧ _ ≤ _ ∧ _ ≤ _›).2.1 | skip); clear hk2)
              | (rcases hq with ⟨Z', rfl, rfl, hI2, hk2⟩ | ⟨Z', rfl, rfl, hI2, hk2⟩ <;> ((first | have hk3 := kp_to (by first | with_reducible assumption | assumption) (by rfl) hk2 | have hk3 := ks_to (by first | with_reducible assumption | assumption) (by rfl) hk2); (first | have hnbb := NBB_kp hk2 (by rfl) (‹_ ∧ NBB _ ∧ _ ≤ _ ∧ _ ≤ _›).2.1 | have hnbb := NBB_kp (kp_of hk2) (by rfl) (‹_ ∧ NBB _ ∧ _ ≤ _ ∧ _ ≤ _›).2.1 | skip); clear hk2))
              | (obtain ⟨Z', rfl, rfl, hI2, hk2⟩ := hq; (first | have hk3 := kp_to (by first | with_reducible assumption | assumption) (by rfl) hk2 | have hk3 := ks_to (by first | with_reducible assumption | assumption) (by rfl) hk2); (first | have hnbb := NBB_kp hk2 (by rfl) (‹_ ∧ NBB _ ∧ _ ≤ _ ∧ _ ≤ _›).2.1 | have hnbb := NBB_kp (kp_of hk2) (by rfl) (‹_ ∧ NBB _ ∧ _ ≤ _ ∧ _ ≤ _›).2.1 | skip); clear hk2))
           | (intro hc; (try simp only [cmp3_c] at hc); simp only [cmpI] at hc)
           | (show CI _; assumption)
           | intro (_ : Int)
           | intro (Z' : ZT)
           | intro (_ : CI _)
           | (intro (hkk : kp _ _ _))
           | intro (_ : _ ≤ _)
           | (intro (hup : _ = upZ _ _ _ _); (try dsimp only at hup))
           | (intro (hld : _ = _); (try dsimp only at hld); (try simp only [Nat.reduceAdd] at hld))
           | intro (_ : _ < _)
           | intro (_ : _ ≠ _)
           | intro (_ : _ ∨ _)))
    all_goals (have lp32 := loop 1000000)
    all_goals first
      | ((with_reducible show G 32 _ _ _); refine hG.2 32 _ [(0, vr 1), (1, vi a1), (2, vi a2), (3, vi a3), (4, vr 70), (5, vl _), (7, vi _)] _ _ rfl ?_)
      | ((fail_if_success (first | (with_reducible show _ ≤ _) | (with_reducible show _ = _) | (with_reducible show _ ∨ _) | (with_reducible show _ < _))); first | refine hG.2 32 _ [(0, vr 1), (1, vi a1), (2, vi a2), (3, vi a3), (4, vr 70), (5, vl _), (7, vi _)] _ _ rfl ?_)
      | skip
    all_goals first
      | with_reducible rfl
      | ((with_reducible show _ = _); rfl)
      | ((with_reducible show recvG _ _); rfl)
      | ((with_reducible show G 32 _ _ _); refine lp32 _ _ _ ?_ ?_ ?_ ?_; assumption; assumption; (refine ⟨?_, ?_, trivial⟩; (first | done | focus (first | (dsimp only; done) | ((try dsimp only); (first | omega | (refine ⟨?_, ?_⟩ <;> (first | omega | ((try dsimp only); (first | omega | (simp (disch := omega) only [w32_id, w64_id]; omega) | (simp only [w32, w64]; omega) | (with_reducible refine (and32_le ?_ ?_).1 <;> omega) | (with_reducible refine (and32_le ?_ ?_).2 <;> omega) | (with_reducible refine (mulR ?_ ?_ ?_ ?_).1 <;> omega) | (with_reducible refine (mulR ?_ ?_ ?_ ?_).2 <;> omega) | (simp only [w32, w64] at *; omega) | (simp (disch := omega) only [w32_id, w64_id] at *; omega) | (simp (disch := omega) only [tdiv_nn, tmod_nn, w32_id, w64_id] at *; omega) | (subst_vars; simp [upZ] at *; omega) | (subst_vars; simp [upZ] at *; simp only [w32, w64] at *; omega))) | fail)) | (first | omega | ((try dsimp only); (first | omega | (simp (disch := omega) only [w32_id, w64_id]; omega) | (simp only [w32, w64]; omega) | (with_reducible refine (and32_le ?_ ?_).1 <;> omega) | (with_reducible refine (and32_le ?_ ?_).2 <;> omega) | (with_reducible refine (mulR ?_ ?_ ?_ ?_).1 <;> omega) | (with_reducible refine (mulR ?_ ?_ ?_ ?_).2 <;> omega) | (simp only [w32, w64] at *; omega) | (simp (disch := omega) only [w32_id, w64_id] at *; omega) | (simp (disch := omega) only [tdiv_nn, tmod_nn, w32_id, w64_id] at *; omega) | (subst_vars; simp [upZ] at *; omega) | (subst_vars; simp [upZ] at *; simp only [w32, w64] at *; omega))) | fail) | fail)))); (first | done | focus (first | (dsimp only; done) | ((try dsimp only); ((first | with_reducible assumption | exact (‹_ ∧ NBB _ ∧ _ ≤ _ ∧ _ ≤ _›).2.1 | exact hnbb | fail)))))); (first | omega | ((try dsimp only); (first | omega | (simp (disch := omega) only [w32_id, w64_id]; omega) | (simp only [w32, w64]; omega) | (with_reducible refine (and32_le ?_ ?_).1 <;> omega) | (with_reducible refine (and32_le ?_ ?_).2 <;> omega) | (with_reducible refine (mulR ?_ ?_ ?_ ?_).1 <;> omega) | (with_reducible refine (mulR ?_ ?_ ?_ ?_).2 <;> omega) | (simp only [w32, w64] at *; omega) | (simp (disch := omega) only [w32_id, w64_id] at *; omega) | (simp (disch := omega) only [tdiv_nn, tmod_nn, w32_id, w64_id] at *; omega) | (subst_vars; simp [upZ] at *; omega) | (subst_vars; simp [upZ] at *; simp only [w32, w64] at *; omega))) | fail))
      | with_reducible exact trivial
      | with_reducible assumption
      | ((fail_if_success (first | (with_reducible show _ ≤ _) | (with_reducible show _ = _) | (with_reducible show _ ∨ _) | (with_reducible show _ < _) | (with_reducible show G _ _ _ _))); (refine Exists.intro _ (Exists.intro _ (And.intro rfl (And.intro rfl ?_))); refine ⟨by assumption, by assumption, ?_⟩; (refine ⟨?_, trivial⟩; (first | done | focus (first | (dsimp only; done) | ((try dsimp only); ((first | with_reducible assumption | exact q2 | exact (‹_ ∧ NBB _ ∧ _ ≤ _ ∧ _ ≤ _›).2.1 | exact hnbb | fail))))))))
      | ((fail_if_success (first | (with_reducible show _ ≤ _) | (with_reducible show _ = _) | (with_reducible show _ ∨ _) | (with_reducible show _ < _) | (with_reducible show G _ _ _ _))); (refine Exists.intro _ (Exists.intro _ (And.intro rfl (And.intro rfl ?_))); refine ⟨by assumption, by assumption, ?_⟩; simp only [Nat.reduceAdd] at *; (refine ⟨?_, trivial⟩; (first | done | focus (first | (dsimp only; done) | ((try dsimp only); ((first | with_reducible assumption | exact q2 | exact (‹_ ∧ NBB _ ∧ _ ≤ _ ∧ _ ≤ _›).2.1 | exact hnbb | fail))))))))
      | omega
      | (dsimp only; omega)
      | decide
      | (show (0 : Int) < _; omega)
      | (show (0 : Int) < _; simp only [w64] at *; omega)
      | (simp only [w32, w64] at *; omega)
      | (first | omega | ((try dsimp only); (first | omega | (simp (disch := omega) only [w32_id, w64_id]; omega) | (simp only [w32, w64]; omega) | (with_reducible refine (and32_le ?_ ?_).1 <;> omega) | (with_reducible refine (and32_le ?_ ?_).2 <;> omega) | (with_reducible refine (mulR ?_ ?_ ?_ ?_).1 <;> omega) | (with_reducible refine (mulR ?_ ?_ ?_ ?_).2 <;> omega) | (simp only [w32, w64] at *; omega) | (simp (disch := omega) only [w32_id, w64_id] at *; omega) | (simp (disch := omega) only [tdiv_nn, tmod_nn, w32_id, w64_id] at *; omega) | (subst_vars; simp [upZ] at *; omega) | (subst_vars; simp [upZ] at *; simp only [w32, w64] at *; omega))) | fail)
      | ((with_reducible show swT _ _ _ _); exact trivial)
      | rfl
      | ((fail_if_success (first | (with_reducible show _ ≤ _) | (with_reducible show _ = _) | (with_reducible show _ ∨ _) | (with_reducible show _ < _) | (with_reducible show G _ _ _ _) | (with_reducible show Exists _))); exact trivial)
      | skip
def s_X10_judgeB : Sp := rRI 3 10 (fun as Z => match as with
    | [.inr (.inr a0), .inl a1, .inl a2] => ((a0 = 1)) ∧ (True) ∧ (True) ∧ (NBS Z) ∧ (NBF Z) ∧ (NBB Z) ∧ True
    | _ => False) (fun as => match as with
    | [.inr (.inr a0), .inl a1, .inl a2] => [71, 73, 5070, 5072]
    | _ => []) (fun as Z (x : Int) Z' => match as with
    | [.inr (.inr a0), .inl a1, .inl a2] => (NBB Z') ∧ True
    | _ => False)
set_option maxRecDepth 100000 in
set_option maxHeartbeats 40000000 in
theorem c_X10_judgeB {l : Launch} {D : va_G} {cA : Nat → ClassId} : PM l D cA yX10_judge cX10_judge 5 (some .int) 6 164 s_X10_judgeB := by
  refine of_X10_judge (c_X10_isLaterStep) ⟨rfl, rfl⟩ (c_X10_isLetter) ⟨rfl, rfl⟩ (c_X10_reckonedN) ⟨rfl, rfl⟩ (c_X0_made) ⟨rfl, rfl⟩ (fun as σ hwf hao hpre => ?_)
  obtain ⟨n, Z, R⟩ := σ
  obtain ⟨hR, hI, hpre⟩ := hpre
  obtain rfl : R = R0 := hR
  (try replace hI : CI Z := hI)
  rcases as with _ | ⟨x | x | a0, _ | ⟨a1 | x | x, _ | ⟨a2 | x | x, _ | ⟨v, t⟩⟩⟩⟩ <;> first | exact (hpre : False).elim | skip
  obtain ⟨k1l, k1u⟩ : okI a1 := hao (vi a1) (by simp)
  obtain ⟨k2l, k2u⟩ : okI a2 := hao (vi a2) (by simp)
  obtain ⟨h0, h1, h2, q0, q1, q2, -⟩ := hpre
  have hk : kp ([71, 73, 5070, 5072]) Z Z := kp_refl
  refine ⟨Nat.le_of_ble_eq_true rfl, fun G hG => ?_⟩
  clear hao hwf
  (try dsimp only at q0)
  (try dsimp only at q1)
  (try dsimp only at q2)
  obtain rfl := h0
  have loop : ∀ fuel : Nat, (∀ (Z1 : ZT) (v4 : Int), CI Z1 → kp ([71, 73, 5070, 5072]) Z Z1 → ((0 ≤ v4 ∧ v4 ≤ 36) ∧ (0 ≤ a2 ∧ a2 ≤ 3) ∧ (NBB Z1) ∧ True) → 37 - v4 ≤ (fuel : Int) → G 26 [(0, vr 1), (1, vi a1), (2, vi a2), (3, vr 72), (4, vi v4)] [] (n, Z1, R0)) := by
    intro fuel
    induction fuel with
    | zero => exact (by intros; omega)
    | succ fuel ih =>
      have ih26 := ih
      · intro Z1 v4 hI1 hk1 hv hm
        obtain ⟨w0, w1, w2, -⟩ := hv
        clear hk hI
        refine wq_run hG n R0 [26] 900 _ _ _ _ ?_
        repeat' (first
            | with_reducible rfl
            | ((with_reducible show NBS _); first | exact q0 | exact hnb)
            | ((with_reducible show NBF _); first | exact q1 | exact hnf)
            | ((with_reducible show FRR _); exact q0.1)
            | ((with_reducible show PLW _); exact q0.2.2.1)
            | ((with_reducible show ORD _ _); exact q0.2.2.2.2.1)
            | ((with_reducible show BM _ 70 2); exact q2.1)
            | ((with_reducible show BM _ 72 2); exact q2.2.1)
            | ((with_reducible show NBB _); exact q2)
            | refine And.intro ?_ ?_
            | with_reducible exact True.intro
            | ((with_reducible show _ = true); rfl)
            | ((with_reducible show recvG _ _); rfl)
            | ((with_reducible show CI _); first | with_reducible assumption | assumption)
            | (fail_if_success (first | (with_reducible show _ ≤ _) | (with_reducible show _ = _) | (with_reducible show _ ∨ _) | (with_reducible show _ < _) | (with_reducible show G _ _ _ _))
               first
               | show G _ _ _ _
               | (refine ld_bnd (by first | with_reducible assumption | assumption) rfl ?_; intro _ _ _ hld; (try dsimp only at hld); (try simp only [Nat.reduceAdd] at hld))
               | (refine st_k (by first | with_reducible assumption | assumption) (by first | with_reducible assumption | assumption) (by first | exact Or.inl (by decide) | exact Or.inr (by decide)) (fun lo hi hb => by first | (cases hb; done) | (cases hb; constructor <;> (first | omega | ((try dsimp only); (first | omega | (simp (disch := omega) only [w32_id, w64_id]; omega) | (simp only [w32, w64]; omega) | (with_reducible refine (and32_le ?_ ?_).1 <;> omega) | (with_reducible refine (and32_le ?_ ?_).2 <;> omega) | (with_reducible refine (mulR ?_ ?_ ?_ ?_).1 <;> omega) | (with_reducible refine (mulR ?_ ?_ ?_ ?_).2 <;> omega) | (simp only [w32, w64] at *; omega) | (simp (disch := omega) only [w32_id, w64_id] at *; omega) | (simp (disch := omega) only [tdiv_nn, tmod_nn, w32_id, w64_id] at *; omega) | (subst_vars; simp [upZ] at *; omega) | (subst_vars; simp [upZ] at *; simp only [w32, w64] at *; omega))) | fail))) ?_; intro Z' _ hkk; intro hld; (try dsimp only at hld); (try simp only [Nat.reduceAdd] at hld); intro hup; (try dsimp only at hup))
               | (refine st_k (by first | with_reducible assumption | assumption) (by first | with_reducible assumption | assumption) (by first | exact Or.inl (by decide) | exact Or.inr (by decide)) (fun lo hi hb => ?_) ?_; (cases hb; refine And.intro ?_ ?_))
               | refine st_same ?_
               | (intro (r : Option PV) σ' hq
                  first
                  | (obtain ⟨rfl, x, rfl, hp⟩ := hq; (try replace hp : _ ∧ _ := hp); (try dsimp only at hp))
                  | (obtain ⟨Z', (o : Nat), rfl, rfl, hI2, hk2, ⟨⟨hp, rfl⟩ | ⟨hp, rfl⟩, -⟩⟩ := hq <;> ((first | have hk3 := kp_to (by first | with_reducible assumption | assumption) (by rfl) hk2 | have hk3 := ks_to (by first | with_reducible assumption | assumption) (by rfl) hk2); (first | have hnbb := NBB_kp hk2 (by rfl) (‹_ ∧ NBB _ ∧ _ ≤ _ ∧ _ ≤ _›).2.1 | have hnbb := NBB_kp (kp_of hk2) (by rfl) (‹_ ∧ NBB _ ∧ _ ≤ _ ∧ _ ≤ _›).2.1 | skip); clear hk2))
                  | (obtain ⟨Z', x, rfl, rfl, hI2, hk2, hp⟩ := hq; (try replace hp : _ ∧ _ := hp); (try dsimp only at hp); (first | have hk3 := kp_to (by first | with_reducible assumption | assumption) (by rfl) hk2 | have hk3 := ks_to (by first | with_reducible assumption | assumption) (by rfl) hk2); (first | have hnbb := NBB_kp hk2 (by rfl) (‹_ ∧ NBB _ ∧ _ ≤ _ ∧ _ ≤ _›).2.1 | have hnbb := NBB_kp (kp_of hk2) (by rfl) (‹_ ∧ NBB _ ∧ _ ≤ _ ∧ _ ≤ _›).2.1 | skip); clear hk2)
                  | (obtain ⟨Z', rfl, rfl, hI2, hk2, hp⟩ := hq; (try replace hp : _ ∧ _ := hp); (try dsimp only at hp); (first | have hk3 := kp_to (by first | with_reducible assumption | assumption) (by rfl) hk2 | have hk3 := ks_to (by first | with_reducible assumption | assumption) (by rfl) hk2); (first | have hnbb := NBB_kp hk2 (by rfl) (‹_ ∧ NBB _ ∧ _ ≤ _ ∧ _ ≤ _›).2.1 | have hnbb := NBB_kp (kp_of hk2) (by rfl) (‹_ ∧ NBB _ ∧ _ ≤ _ ∧ _ ≤ _›).2.1 | skip); clear hk2)
                  | (obtain ⟨rfl, rfl⟩ := hq)
                  | (obtain ⟨Z', x, rfl, rfl, hI2, hk2⟩ := hq; have hkn := keeps_nil hk2; clear hk2; subst hkn)
                  | (obtain ⟨Z', x, rfl, rfl, hI2, hk2⟩ := hq; (first | have hk3 := kp_to (by first | with_reducible assumption | assumption) (by rfl) hk2 | have hk3 := ks_to (by first | with_reducible assumption | assumption) (by rfl) hk2); (first | have hnbb := NBB_kp hk2 (by rfl) (‹_ ∧ NBB _ ∧ _ ≤ _ ∧ _ ≤ _›).2.1 | have hnbb := NBB_kp (kp_of hk2) (by rfl) (‹_ ∧ NBB _ ∧ _ ≤ _ ∧ _ ≤ _›).2.1 | skip); clear hk2)
                  | (rcases hq with ⟨Z', rfl, rfl, hI2, hk2⟩ | ⟨Z', rfl, rfl, hI2, hk2⟩ <;> ((first | have hk3 := kp_to (by first | with_reducible assumption | assumption) (by rfl) hk2 | have hk3 := ks_to (by first | with_reducible assumption | assumption) (by rfl) hk2); (first | have hnbb := NBB_kp hk2 (by rfl) (‹_ ∧ NBB _ ∧ _ ≤ _ ∧ _ ≤ _›).2.1 | have hnbb := NBB_kp (kp_of hk2) (by rfl) (‹_ ∧ NBB _ ∧ _ ≤ _ ∧ _ ≤ _›).2.1 | skip); clear hk2))
                  | (obtain ⟨Z', rfl, rfl, hI2, hk2⟩ := hq; (first | have hk3 := kp_to (by first | with_reducible assumption | assumption) (by rfl) hk2 | have hk3 := ks_to (by first | with_reducible assumption | assumption) (by rfl) hk2); (first | have hnbb := NBB_kp hk2 (by rfl) (‹_ ∧ NBB _ ∧ _ ≤ _ ∧ _ ≤ _›).2.1 | have hnbb := NBB_kp (kp_of hk2) (by rfl) (‹_ ∧ NBB _ ∧ _ ≤ _ ∧ _ ≤ _›).2.1 | skip); clear hk2))
               | (intro hc; (try simp only [cmp3_c] at hc); simp only [cmpI] at hc)
               | (show CI _; assumption)
               | intro (_ : Int)
               | intro (Z' : ZT)
               | intro (_ : CI _)
               | (intro (hkk : kp _ _ _))
               | intro (_ : _ ≤ _)
               | (intro (hup : _ = upZ _ _ _ _); (try dsimp only at hup))
               | (intro (hld : _ = _); (try dsimp only at hld); (try simp only [Nat.reduceAdd] at hld))
               | intro (_ : _ < _)
               | intro (_ : _ ≠ _)
               | intro (_ : _ ∨ _)))
        all_goals first
          | ((with_reducible show G 26 _ _ _); refine hG.2 26 _ [(0, vr 1), (1, vi a1), (2, vi a2), (3, vr 72), (4, vi _)] _ _ rfl ?_)
          | ((fail_if_success (first | (with_reducible show _ ≤ _) | (with_reducible show _ = _) | (with_reducible show _ ∨ _) | (with_reducible show _ < _))); first | refine hG.2 26 _ [(0, vr 1), (1, vi a1), (2, vi a2), (3, vr 72), (4, vi _)] _ _ rfl ?_)
          | skip
        all_goals first
          | with_reducible rfl
          | ((with_reducible show _ = _); rfl)
          | ((with_reducible show recvG _ _); rfl)
          | ((with_reducible show G 26 _ _ _); refine ih26 _ _ ?_ ?_ ?_ ?_; assumption; assumption; (refine ⟨?_, ?_, ?_, trivial⟩; (first | done | focus (first | (dsimp only; done) | ((try dsimp only); (first | omega | (refine ⟨?_, ?_⟩ <;> (first | omega | ((try dsimp only); (first | omega | (simp (disch := omega) only [w32_id, w64_id]; omega) | (simp only [w32, w64]; omega) | (with_reducible refine (and32_le ?_ ?_).1 <;> omega) | (with_reducible refine (and32_le ?_ ?_).2 <;> omega) | (with_reducible refine (mulR ?_ ?_ ?_ ?_).1 <;> omega) | (with_reducible refine (mulR ?_ ?_ ?_ ?_).2 <;> omega) | (simp only [w32, w64] at *; omega) | (simp (disch := omega) only [w32_id, w64_id] at *; omega) | (simp (disch := omega) only [tdiv_nn, tmod_nn, w32_id, w64_id] at *; omega) | (subst_vars; simp [upZ] at *; omega) | (subst_vars; simp [upZ] at *; simp only [w32, w64] at *; omega))) | fail)) | (first | omega | ((try dsimp only); (first | omega | (simp (disch := omega) only [w32_id, w64_id]; omega) | (simp only [w32, w64]; omega) | (with_reducible refine (and32_le ?_ ?_).1 <;> omega) | (with_reducible refine (and32_le ?_ ?_).2 <;> omega) | (with_reducible refine (mulR ?_ ?_ ?_ ?_).1 <;> omega) | (with_reducible refine (mulR ?_ ?_ ?_ ?_).2 <;> omega) | (simp only [w32, w64] at *; omega) | (simp (disch := omega) only [w32_id, w64_id] at *; omega) | (simp (disch := omega) only [tdiv_nn, tmod_nn, w32_id, w64_id] at *; omega) | (subst_vars; simp [upZ] at *; omega) | (subst_vars; simp [upZ] at *; simp only [w32, w64] at *; omega))) | fail) | fail)))); (first | done | focus (first | (dsimp only; done) | ((try dsimp only); (first | with_reducible assumption | first | omega | (refine ⟨?_, ?_⟩ <;> (first | omega | ((try dsimp only); (first | omega | (simp (disch := omega) only [w32_id, w64_id]; omega) | (simp only [w32, w64]; omega) | (with_reducible refine (and32_le ?_ ?_).1 <;> omega) | (with_reducible refine (and32_le ?_ ?_).2 <;> omega) | (with_reducible refine (mulR ?_ ?_ ?_ ?_).1 <;> omega) | (with_reducible refine (mulR ?_ ?_ ?_ ?_).2 <;> omega) | (simp only [w32, w64] at *; omega) | (simp (disch := omega) only [w32_id, w64_id] at *; omega) | (simp (disch := omega) only [tdiv_nn, tmod_nn, w32_id, w64_id] at *; omega) | (subst_vars; simp [upZ] at *; omega) | (subst_vars; simp [upZ] at *; simp only [w32, w64] at *; omega))) | fail)) | (first | omega | ((try dsimp only); (first | omega | (simp (disch := omega) only [w32_id, w64_id]; omega) | (simp only [w32, w64]; omega) | (with_reducible refine (and32_le ?_ ?_).1 <;> omega) | (with_reducible refine (and32_le ?_ ?_).2 <;> omega) | (with_reducible refine (mulR ?_ ?_ ?_ ?_).1 <;> omega) | (with_reducible refine (mulR ?_ ?_ ?_ ?_).2 <;> omega) | (simp only [w32, w64] at *; omega) | (simp (disch := omega) only [w32_id, w64_id] at *; omega) | (simp (disch := omega) only [tdiv_nn, tmod_nn, w32_id, w64_id] at *; omega) | (subst_vars; simp [upZ] at *; omega) | (subst_vars; simp [upZ] at *; simp only [w32, w64] at *; omega))) | fail) | fail)))); (first | done | focus (first | (dsimp only; done) | ((try dsimp only); ((first | with_reducible assumption | exact (‹_ ∧ NBB _ ∧ _ ≤ _ ∧ _ ≤ _›).2.1 | exact hnbb | fail)))))); (first | omega | ((try dsimp only); (first | omega | (simp (disch := omega) only [w32_id, w64_id]; omega) | (simp only [w32, w64]; omega) | (with_reducible refine (and32_le ?_ ?_).1 <;> omega) | (with_reducible refine (and32_le ?_ ?_).2 <;> omega) | (with_reducible refine (mulR ?_ ?_ ?_ ?_).1 <;> omega) | (with_reducible refine (mulR ?_ ?_ ?_ ?_).2 <;> omega) | (simp only [w32, w64] at *; omega) | (simp (disch := omega) only [w32_id, w64_id] at *; omega) | (simp (disch := omega) only [tdiv_nn, tmod_nn, w32_id, w64_id] at *; omega) | (subst_vars; simp [upZ] at *; omega) | (subst_vars; simp [upZ] at *; simp only [w32, w64] at *; omega))) | fail))
          | with_reducible exact trivial
          | with_reducible assumption
          | ((fail_if_success (first | (with_reducible show _ ≤ _) | (with_reducible show _ = _) | (with_reducible show _ ∨ _) | (with_reducible show _ < _) | (with_reducible show G _ _ _ _))); (refine Exists.intro _ (Exists.intro _ (And.intro rfl (And.intro rfl ?_))); refine ⟨by assumption, by assumption, ?_⟩; (refine ⟨?_, trivial⟩; (first | done | focus (first | (dsimp only; done) | ((try dsimp only); ((first | with_reducible assumption | exact q2 | exact (‹_ ∧ NBB _ ∧ _ ≤ _ ∧ _ ≤ _›).2.1 | exact hnbb | fail))))))))
          | ((fail_if_success (first | (with_reducible show _ ≤ _) | (with_reducible show _ = _) | (with_reducible show _ ∨ _) | (with_reducible show _ < _) | (with_reducible show G _ _ _ _))); (refine Exists.intro _ (Exists.intro _ (And.intro rfl (And.intro rfl ?_))); refine ⟨by assumption, by assumption, ?_⟩; simp only [Nat.reduceAdd] at *; (refine ⟨?_, trivial⟩; (first | done | focus (first | (dsimp only; done) | ((try dsimp only); ((first | with_reducible assumption | exact q2 | exact (‹_ ∧ NBB _ ∧ _ ≤ _ ∧ _ ≤ _›).2.1 | exact hnbb | fail))))))))
          | omega
          | (dsimp only; omega)
          | decide
          | (show (0 : Int) < _; omega)
          | (show (0 : Int) < _; simp only [w64] at *; omega)
          | (simp only [w32, w64] at *; omega)
          | (first | omega | ((try dsimp only); (first | omega | (simp (disch := omega) only [w32_id, w64_id]; omega) | (simp only [w32, w64]; omega) | (with_reducible refine (and32_le ?_ ?_).1 <;> omega) | (with_reducible refine (and32_le ?_ ?_).2 <;> omega) | (with_reducible refine (mulR ?_ ?_ ?_ ?_).1 <;> omega) | (with_reducible refine (mulR ?_ ?_ ?_ ?_).2 <;> omega) | (simp only [w32, w64] at *; omega) | (simp (disch := omega) only [w32_id, w64_id] at *; omega) | (simp (disch := omega) only [tdiv_nn, tmod_nn, w32_id, w64_id] at *; omega) | (subst_vars; simp [upZ] at *; omega) | (subst_vars; simp [upZ] at *; simp only [w32, w64] at *; omega))) | fail)
          | ((with_reducible show swT _ _ _ _); exact trivial)
          | rfl
          | ((fail_if_success (first | (with_reducible show _ ≤ _) | (with_reducible show _ = _) | (with_reducible show _ ∨ _) | (with_reducible show _ < _) | (with_reducible show G _ _ _ _) | (with_reducible show Exists _))); exact trivial)
          | skip
  refine wq_run hG n R0 [26] 900 _ _ _ _ ?_
  repeat' (first
      | with_reducible rfl
      | ((with_reducible show NBS _); first | exact q0 | exact hnb)
      | ((with_reducible show NBF _); first | exact q1 | exact hnf)
      | ((with_reducible show FRR _); exact q0.1)
      | ((with_reducible show PLW _); exact q0.2.2.1)
      | ((with_reducible show ORD _ _); exact q0.2.2.2.2.1)
      | ((with_reducible show BM _ 70 2); exact q2.1)
      | ((with_reducible show BM _ 72 2); exact q2.2.1)
      | ((with_reducible show NBB _); exact q2)
      | refine And.intro ?_ ?_
      | with_reducible exact True.intro
      | ((with_reducible show _ = true); rfl)
      | ((with_reducible show recvG _ _); rfl)
      | ((with_reducible show CI _); first | with_reducible assumption | assumption)
      | (fail_if_success (first | (with_reducible show _ ≤ _) | (with_reducible show _ = _) | (with_reducible show _ ∨ _) | (with_reducible show _ < _) | (with_reducible show G _ _ _ _))
         first
         | show G _ _ _ _
         | (refine ld_bnd (by first | with_reducible assumption | assumption) rfl ?_; intro _ _ _ hld; (try dsimp only at hld); (try simp only [Nat.reduceAdd] at hld))
         | (refine st_k (by first | with_reducible assumption | assumption) (by first | with_reducible assumption | assumption) (by first | exact Or.inl (by decide) | exact Or.inr (by decide)) (fun lo hi hb => by first | (cases hb; done) | (cases hb; constructor <;> (first | omega | ((try dsimp only); (first | omega | (simp (disch := omega) only [w32_id, w64_id]; omega) | (simp only [w32, w64]; omega) | (with_reducible refine (and32_le ?_ ?_).1 <;> omega) | (with_reducible refine (and32_le ?_ ?_).2 <;> omega) | (with_reducible refine (mulR ?_ ?_ ?_ ?_).1 <;> omega) | (with_reducible refine (mulR ?_ ?_ ?_ ?_).2 <;> omega) | (simp only [w32, w64] at *; omega) | (simp (disch := omega) only [w32_id, w64_id] at *; omega) | (simp (disch := omega) only [tdiv_nn, tmod_nn, w32_id, w64_id] at *; omega) | (subst_vars; simp [upZ] at *; omega) | (subst_vars; simp [upZ] at *; simp only [w32, w64] at *; omega))) | fail))) ?_; intro Z' _ hkk; intro hld; (try dsimp only at hld); (try simp only [Nat.reduceAdd] at hld); intro hup; (try dsimp only at hup))
         | (refine st_k (by first | with_reducible assumption | assumption) (by first | with_reducible assumption | assumption) (by first | exact Or.inl (by decide) | exact Or.inr (by decide)) (fun lo hi hb => ?_) ?_; (cases hb; refine And.intro ?_ ?_))
         | refine st_same ?_
         | (intro (r : Option PV) σ' hq
            first
            | (obtain ⟨rfl, x, rfl, hp⟩ := hq; (try replace hp : _ ∧ _ := hp); (try dsimp only at hp))
            | (obtain ⟨Z', (o : Nat), rfl, rfl, hI2, hk2, ⟨⟨hp, rfl⟩ | ⟨hp, rfl⟩, -⟩⟩ := hq <;> ((first | have hk3 := kp_to (by first | with_reducible assumption | assumption) (by rfl) hk2 | have hk3 := ks_to (by first | with_reducible assumption | assumption) (by rfl) hk2); (first | have hnbb := NBB_kp hk2 (by rfl) (‹_ ∧ NBB _ ∧ _ ≤ _ ∧ _ ≤ _›).2.1 | have hnbb := NBB_kp (kp_of hk2) (by rfl) (‹_ ∧ NBB _ ∧ _ ≤ _ ∧ _ ≤ _›).2.1 | skip); clear hk2))
            | (obtain ⟨Z', x, rfl, rfl, hI2, hk2, hp⟩ := hq; (try replace hp : _ ∧ _ := hp); (try dsimp only at hp); (first | have hk3 := kp_to (by first | with_reducible assumption | assumption) (by rfl) hk2 | have hk3 := ks_to (by first | with_reducible assumption | assumption) (by rfl) hk2); (first | have hnbb := NBB_kp hk2 (by rfl) (‹_ ∧ NBB _ ∧ _ ≤ _ ∧ _ ≤ _›).2.1 | have hnbb := NBB_kp (kp_of hk2) (by rfl) (‹_ ∧ NBB _ ∧ _ ≤ _ ∧ _ ≤ _›).2.1 | skip); clear hk2)
            | (obtain ⟨Z', rfl, rfl, hI2, hk2, hp⟩ := hq; (try replace hp : _ ∧ _ := hp); (try dsimp only at hp); (first | have hk3 := kp_to (by first | with_reducible assumption | assumption) (by rfl) hk2 | have hk3 := ks_to (by first | with_reducible assumption | assumption) (by rfl) hk2); (first | have hnbb := NBB_kp hk2 (by rfl) (‹_ ∧ NBB _ ∧ _ ≤ _ ∧ _ ≤ _›).2.1 | have hnbb := NBB_kp (kp_of hk2) (by rfl) (‹_ ∧ NBB _ ∧ _ ≤ _ ∧ _ ≤ _›).2.1 | skip); clear hk2)
            | (obtain ⟨rfl, rfl⟩ := hq)
            | (obtain ⟨Z', x, rfl, rfl, hI2, hk2⟩ := hq; have hkn := keeps_nil hk2; clear hk2; subst hkn)
            | (obtain ⟨Z', x, rfl, rfl, hI2, hk2⟩ := hq; (first | have hk3 := kp_to (by first | with_reducible assumption | assumption) (by rfl) hk2 | have hk3 := ks_to (by first | with_reducible assumption | assumption) (by rfl) hk2); (first | have hnbb := NBB_kp hk2 (by rfl) (‹_ ∧ NBB _ ∧ _ ≤ _ ∧ _ ≤ _›).2.1 | have hnbb := NBB_kp (kp_of hk2) (by rfl) (‹_ ∧ NBB _ ∧ _ ≤ _ ∧ _ ≤ _›).2.1 | skip); clear hk2)
            | (rcases hq with ⟨Z', rfl, rfl, hI2, hk2⟩ | ⟨Z', rfl, rfl, hI2, hk2⟩ <;> ((first | have hk3 := kp_to (by first | with_reducible assumption | assumption) (by rfl) hk2 | have hk3 := ks_to (by first | with_reducible assumption | assumption) (by rfl) hk2); (first | have hnbb := NBB_kp hk2 (by rfl) (‹_ ∧ NBB _ ∧ _ ≤ _ ∧ _ ≤ _›).2.1 | have hnbb := NBB_kp (kp_of hk2) (by rfl) (‹_ ∧ NBB _ ∧ _ ≤ _ ∧ _ ≤ _›).2.1 | skip); clear hk2))
            | (obtain ⟨Z', rfl, rfl, hI2, hk2⟩ := hq; (first | have hk3 := kp_to (by first | with_reducible assumption | assumption) (by rfl) hk2 | have hk3 := ks_to (by first | with_reducible assumption | assumption) (by rfl) hk2); (first | have hnbb := NBB_kp hk2 (by rfl) (‹_ ∧ NBB _ ∧ _ ≤ _ ∧ _ ≤ _›).2.1 | have hnbb := NBB_kp (kp_of hk2) (by rfl) (‹_ ∧ NBB _ ∧ _ ≤ _ ∧ _ ≤ _›).2.1 | skip); clear hk2))
         | (intro hc; (try simp only [cmp3_c] at hc); simp only [cmpI] at hc)
         | (show CI _; assumption)
         | intro (_ : Int)
         | intro (Z' : ZT)
         | intro (_ : CI _)
         | (intro (hkk : kp _ _ _))
         | intro (_ : _ ≤ _)
         | (intro (hup : _ = upZ _ _ _ _); (try dsimp only at hup))
         | (intro (hld : _ = _); (try dsimp only at hld); (try simp only [Nat.reduceAdd] at hld))
         | intro (_ : _ < _)
         | intro (_ : _ ≠ _)
         | intro (_ : _ ∨ _)))
  all_goals (have lp26 := loop 1000000)
  all_goals first
    | ((with_reducible show G 26 _ _ _); refine hG.2 26 _ [(0, vr 1), (1, vi a1), (2, vi a2), (3, vr 72), (4, vi _)] _ _ rfl ?_)
    | ((fail_if_success (first | (with_reducible show _ ≤ _) | (with_reducible show _ = _) | (with_reducible show _ ∨ _) | (with_reducible show _ < _))); first | refine hG.2 26 _ [(0, vr 1), (1, vi a1), (2, vi a2), (3, vr 72), (4, vi _)] _ _ rfl ?_)
    | skip
  all_goals first
    | with_reducible rfl
    | ((with_reducible show _ = _); rfl)
    | ((with_reducible show recvG _ _); rfl)
    | ((with_reducible show G 26 _ _ _); refine lp26 _ _ ?_ ?_ ?_ ?_; assumption; assumption; (refine ⟨?_, ?_, ?_, trivial⟩; (first | done | focus (first | (dsimp only; done) | ((try dsimp only); (first | omega | (refine ⟨?_, ?_⟩ <;> (first | omega | ((try dsimp only); (first | omega | (simp (disch := omega) only [w32_id, w64_id]; omega) | (simp only [w32, w64]; omega) | (with_reducible refine (and32_le ?_ ?_).1 <;> omega) | (with_reducible refine (and32_le ?_ ?_).2 <;> omega) | (with_reducible refine (mulR ?_ ?_ ?_ ?_).1 <;> omega) | (with_reducible refine (mulR ?_ ?_ ?_ ?_).2 <;> omega) | (simp only [w32, w64] at *; omega) | (simp (disch := omega) only [w32_id, w64_id] at *; omega) | (simp (disch := omega) only [tdiv_nn, tmod_nn, w32_id, w64_id] at *; omega) | (subst_vars; simp [upZ] at *; omega) | (subst_vars; simp [upZ] at *; simp only [w32, w64] at *; omega))) | fail)) | (first | omega | ((try dsimp only); (first | omega | (simp (disch := omega) only [w32_id, w64_id]; omega) | (simp only [w32, w64]; omega) | (with_reducible refine (and32_le ?_ ?_).1 <;> omega) | (with_reducible refine (and32_le ?_ ?_).2 <;> omega) | (with_reducible refine (mulR ?_ ?_ ?_ ?_).1 <;> omega) | (with_reducible refine (mulR ?_ ?_ ?_ ?_).2 <;> omega) | (simp only [w32, w64] at *; omega) | (simp (disch := omega) only [w32_id, w64_id] at *; omega) | (simp (disch := omega) only [tdiv_nn, tmod_nn, w32_id, w64_id] at *; omega) | (subst_vars; simp [upZ] at *; omega) | (subst_vars; simp [upZ] at *; simp only [w32, w64] at *; omega))) | fail) | fail)))); (first | done | focus (first | (dsimp only; done) | ((try dsimp only); (first | with_reducible assumption | first | omega | (refine ⟨?_, ?_⟩ <;> (first | omega | ((try dsimp only); (first | omega | (simp (disch := omega) only [w32_id, w64_id]; omega) | (simp only [w32, w64]; omega) | (with_reducible refine (and32_le ?_ ?_).1 <;> omega) | (with_reducible refine (and32_le ?_ ?_).2 <;> omega) | (with_reducible refine (mulR ?_ ?_ ?_ ?_).1 <;> omega) | (with_reducible refine (mulR ?_ ?_ ?_ ?_).2 <;> omega) | (simp only [w32, w64] at *; omega) | (simp (disch := omega) only [w32_id, w64_id] at *; omega) | (simp (disch := omega) only [tdiv_nn, tmod_nn, w32_id, w64_id] at *; omega) | (subst_vars; simp [upZ] at *; omega) | (subst_vars; simp [upZ] at *; simp only [w32, w64] at *; omega))) | fail)) | (first | omega | ((try dsimp only); (first | omega | (simp (disch := omega) only [w32_id, w64_id]; omega) | (simp only [w32, w64]; omega) | (with_reducible refine (and32_le ?_ ?_).1 <;> omega) | (with_reducible refine (and32_le ?_ ?_).2 <;> omega) | (with_reducible refine (mulR ?_ ?_ ?_ ?_).1 <;> omega) | (with_reducible refine (mulR ?_ ?_ ?_ ?_).2 <;> omega) | (simp only [w32, w64] at *; omega) | (simp (disch := omega) only [w32_id, w64_id] at *; omega) | (simp (disch := omega) only [tdiv_nn, tmod_nn, w32_id, w64_id] at *; omega) | (subst_vars; simp [upZ] at *; omega) | (subst_vars; simp [upZ] at *; simp only [w32, w64] at *; omega))) | fail) | fail)))); (first | done | focus (first | (dsimp only; done) | ((try dsimp only); ((first | with_reducible assumption | exact (‹_ ∧ NBB _ ∧ _ ≤ _ ∧ _ ≤ _›).2.1 | exact hnbb | fail)))))); (first | omega | ((try dsimp only); (first | omega | (simp (disch := omega) only [w32_id, w64_id]; omega) | (simp only [w32, w64]; omega) | (with_reducible refine (and32_le ?_ ?_).1 <;> omega) | (with_reducible refine (and32_le ?_ ?_).2 <;> omega) | (with_reducible refine (mulR ?_ ?_ ?_ ?_).1 <;> omega) | (with_reducible refine (mulR ?_ ?_ ?_ ?_).2 <;> omega) | (simp only [w32, w64] at *; omega) | (simp (disch := omega) only [w32_id, w64_id] at *; omega) | (simp (disch := omega) only [tdiv_nn, tmod_nn, w32_id, w64_id] at *; omega) | (subst_vars; simp [upZ] at *; omega) | (subst_vars; simp [upZ] at *; simp only [w32, w64] at *; omega))) | fail))
    | with_reducible exact trivial
    | with_reducible assumption
    | ((fail_if_success (first | (with_reducible show _ ≤ _) | (with_reducible show _ = _) | (with_reducible show _ ∨ _) | (with_reducible show _ < _) | (with_reducible show G _ _ _ _))); (refine Exists.intro _ (Exists.intro _ (And.intro rfl (And.intro rfl ?_))); refine ⟨by assumption, by assumption, ?_⟩; (refine ⟨?_, trivial⟩; (first | done | focus (first | (dsimp only; done) | ((try dsimp only); ((first | with_reducible assumption | exact q2 | exact (‹_ ∧ NBB _ ∧ _ ≤ _ ∧ _ ≤ _›).2.1 | exact hnbb | fail))))))))
    | ((fail_if_success (first | (with_reducible show _ ≤ _) | (with_reducible show _ = _) | (with_reducible show _ ∨ _) | (with_reducible show _ < _) | (with_reducible show G _ _ _ _))); (refine Exists.intro _ (Exists.intro _ (And.intro rfl (And.intro rfl ?_))); refine ⟨by assumption, by assumption, ?_⟩; simp only [Nat.reduceAdd] at *; (refine ⟨?_, trivial⟩; (first | done | focus (first | (dsimp only; done) | ((try dsimp only); ((first | with_reducible assumption | exact q2 | exact (‹_ ∧ NBB _ ∧ _ ≤ _ ∧ _ ≤ _›).2.1 | exact hnbb | fail))))))))
    | omega
    | (dsimp only; omega)
    | decide
    | (show (0 : Int) < _; omega)
    | (show (0 : Int) < _; simp only [w64] at *; omega)
    | (simp only [w32, w64] at *; omega)
    | (first | omega | ((try dsimp only); (first | omega | (simp (disch := omega) only [w32_id, w64_id]; omega) | (simp only [w32, w64]; omega) | (with_reducible refine (and32_le ?_ ?_).1 <;> omega) | (with_reducible refine (and32_le ?_ ?_).2 <;> omega) | (with_reducible refine (mulR ?_ ?_ ?_ ?_).1 <;> omega) | (with_reducible refine (mulR ?_ ?_ ?_ ?_).2 <;> omega) | (simp only [w32, w64] at *; omega) | (simp (disch := omega) only [w32_id, w64_id] at *; omega) | (simp (disch := omega) only [tdiv_nn, tmod_nn, w32_id, w64_id] at *; omega) | (subst_vars; simp [upZ] at *; omega) | (subst_vars; simp [upZ] at *; simp only [w32, w64] at *; omega))) | fail)
    | ((with_reducible show swT _ _ _ _); exact trivial)
    | rfl
    | ((fail_if_success (first | (with_reducible show _ ≤ _) | (with_reducible show _ = _) | (with_reducible show _ ∨ _) | (with_reducible show _ < _) | (with_reducible show G _ _ _ _) | (with_reducible show Exists _))); exact trivial)
    | skip
def s_X10_failsB : Sp := rRI 1 10 (fun as Z => match as with
    | [.inr (.inr a0)] => ((a0 = 1)) ∧ (NBS Z) ∧ (NBF Z) ∧ (NBB Z) ∧ True
    | _ => False) (fun as => match as with
    | [.inr (.inr a0)] => [71, 73, 5070, 5072]
    | _ => []) (fun as Z (x : Int) Z' => match as with
    | [.inr (.inr a0)] => (NBB Z') ∧ True
    | _ => False)
set_option maxRecDepth 100000 in
set_option maxHeartbeats 40000000 in
theorem c_X10_failsB {l : Launch} {D : va_G} {cA : Nat → ClassId} : PM l D cA yX10_fails cX10_fails 1 (some .int) 6 164 s_X10_failsB := by
  refine of_X10_fails (c_X1_toldSums) ⟨rfl, rfl⟩ (c_X10_reckonedN) ⟨rfl, rfl⟩ (c_X1_failing) ⟨rfl, rfl⟩ (fun as σ hwf hao hpre => ?_)
  obtain ⟨n, Z, R⟩ := σ
  obtain ⟨hR, hI, hpre⟩ := hpre
  obtain rfl : R = R0 := hR
  (try replace hI : CI Z := hI)
  rcases as with _ | ⟨x | x | a0, _ | ⟨v, t⟩⟩ <;> first | exact (hpre : False).elim | skip
  obtain ⟨h0, q0, q1, q2, -⟩ := hpre
  have hk : kp ([71, 73, 5070, 5072]) Z Z := kp_refl
  refine ⟨Nat.le_of_ble_eq_true rfl, fun G hG => ?_⟩
  clear hao hwf
  (try dsimp only at q0)
  (try dsimp only at q1)
  (try dsimp only at q2)
  obtain rfl := h0
  refine wq_run hG n R0 [] 900 _ _ _ _ ?_
  repeat' (first
      | with_reducible rfl
      | ((with_reducible show NBS _); first | exact q0 | exact hnb)
      | ((with_reducible show NBF _); first | exact q1 | exact hnf)
      | ((with_reducible show FRR _); exact q0.1)
      | ((with_reducible show PLW _); exact q0.2.2.1)
      | ((with_reducible show ORD _ _); exact q0.2.2.2.2.1)
      | ((with_reducible show BM _ 70 2); exact q2.1)
      | ((with_reducible show BM _ 72 2); exact q2.2.1)
      | ((with_reducible show NBB _); exact q2)
      | refine And.intro ?_ ?_
      | with_reducible exact True.intro
      | ((with_reducible show _ = true); rfl)
      | ((with_reducible show recvG _ _); rfl)
      | ((with_reducible show CI _); first | with_reducible assumption | assumption)
      | (fail_if_success (first | (with_reducible show _ ≤ _) | (with_reducible show _ = _) | (with_reducible show _ ∨ _) | (with_reducible show _ < _) | (with_reducible show G _ _ _ _))
         first
         | show G _ _ _ _
         | (refine ld_bnd (by first | with_reducible assumption | assumption) rfl ?_; intro _ _ _ hld; (try dsimp only at hld); (try simp only [Nat.reduceAdd] at hld))
         | (refine st_k (by first | with_reducible assumption | assumption) (by first | with_reducible assumption | assumption) (by first | exact Or.inl (by decide) | exact Or.inr (by decide)) (fun lo hi hb => by first | (cases hb; done) | (cases hb; constructor <;> (first | omega | ((try dsimp only); (first | omega | (simp (disch := omega) only [w32_id, w64_id]; omega) | (simp only [w32, w64]; omega) | (with_reducible refine (and32_le ?_ ?_).1 <;> omega) | (with_reducible refine (and32_le ?_ ?_).2 <;> omega) | (with_reducible refine (mulR ?_ ?_ ?_ ?_).1 <;> omega) | (with_reducible refine (mulR ?_ ?_ ?_ ?_).2 <;> omega) | (simp only [w32, w64] at *; omega) | (simp (disch := omega) only [w32_id, w64_id] at *; omega) | (simp (disch := omega) only [tdiv_nn, tmod_nn, w32_id, w64_id] at *; omega) | (subst_vars; simp [upZ] at *; omega) | (subst_vars; simp [upZ] at *; simp only [w32, w64] at *; omega))) | fail))) ?_; intro Z' _ hkk; intro hld; (try dsimp only at hld); (try simp only [Nat.reduceAdd] at hld); intro hup; (try dsimp only at hup))
         | (refine st_k (by first | with_reducible assumption | assumption) (by first | with_reducible assumption | assumption) (by first | exact Or.inl (by decide) | exact Or.inr (by decide)) (fun lo hi hb => ?_) ?_; (cases hb; refine And.intro ?_ ?_))
         | refine st_same ?_
         | (intro (r : Option PV) σ' hq
            first
            | (obtain ⟨rfl, x, rfl, hp⟩ := hq; (try replace hp : _ ∧ _ := hp); (try dsimp only at hp))
            | (obtain ⟨Z', (o : Nat), rfl, rfl, hI2, hk2, ⟨⟨hp, rfl⟩ | ⟨hp, rfl⟩, -⟩⟩ := hq <;> ((first | have hk3 := kp_to (by first | with_reducible assumption | assumption) (by rfl) hk2 | have hk3 := ks_to (by first | with_reducible assumption | assumption) (by rfl) hk2); (first | have hnbb := NBB_kp hk2 (by rfl) (‹_ ∧ NBB _ ∧ _ ≤ _ ∧ _ ≤ _›).2.1 | have hnbb := NBB_kp (kp_of hk2) (by rfl) (‹_ ∧ NBB _ ∧ _ ≤ _ ∧ _ ≤ _›).2.1 | skip); clear hk2))
            | (obtain ⟨Z', x, rfl, rfl, hI2, hk2, hp⟩ := hq; (try replace hp : _ ∧ _ := hp); (try dsimp only at hp); (first | have hk3 := kp_to (by first | with_reducible assumption | assumption) (by rfl) hk2 | have hk3 := ks_to (by first | with_reducible assumption | assumption) (by rfl) hk2); (first | have hnbb := NBB_kp hk2 (by rfl) (‹_ ∧ NBB _ ∧ _ ≤ _ ∧ _ ≤ _›).2.1 | have hnbb := NBB_kp (kp_of hk2) (by rfl) (‹_ ∧ NBB _ ∧ _ ≤ _ ∧ _ ≤ _›).2.1 | skip); clear hk2)
            | (obtain ⟨Z', rfl, rfl, hI2, hk2, hp⟩ := hq; (try replace hp : _ ∧ _ := hp); (try dsimp only at hp); (first | have hk3 := kp_to (by first | with_reducible assumption | assumption) (by rfl) hk2 | have hk3 := ks_to (by first | with_reducible assumption | assumption) (by rfl) hk2); (first | have hnbb := NBB_kp hk2 (by rfl) (‹_ ∧ NBB _ ∧ _ ≤ _ ∧ _ ≤ _›).2.1 | have hnbb := NBB_kp (kp_of hk2) (by rfl) (‹_ ∧ NBB _ ∧ _ ≤ _ ∧ _ ≤ _›).2.1 | skip); clear hk2)
            | (obtain ⟨rfl, rfl⟩ := hq)
            | (obtain ⟨Z', x, rfl, rfl, hI2, hk2⟩ := hq; have hkn := keeps_nil hk2; clear hk2; subst hkn)
            | (obtain ⟨Z', x, rfl, rfl, hI2, hk2⟩ := hq; (first | have hk3 := kp_to (by first | with_reducible assumption | assumption) (by rfl) hk2 | have hk3 := ks_to (by first | with_reducible assumption | assumption) (by rfl) hk2); (first | have hnbb := NBB_kp hk2 (by rfl) (‹_ ∧ NBB _ ∧ _ ≤ _ ∧ _ ≤ _›).2.1 | have hnbb := NBB_kp (kp_of hk2) (by rfl) (‹_ ∧ NBB _ ∧ _ ≤ _ ∧ _ ≤ _›).2.1 | skip); clear hk2)
            | (rcases hq with ⟨Z', rfl, rfl, hI2, hk2⟩ | ⟨Z', rfl, rfl, hI2, hk2⟩ <;> ((first | have hk3 := kp_to (by first | with_reducible assumption | assumption) (by rfl) hk2 | have hk3 := ks_to (by first | with_reducible assumption | assumption) (by rfl) hk2); (first | have hnbb := NBB_kp hk2 (by rfl) (‹_ ∧ NBB _ ∧ _ ≤ _ ∧ _ ≤ _›).2.1 | have hnbb := NBB_kp (kp_of hk2) (by rfl) (‹_ ∧ NBB _ ∧ _ ≤ _ ∧ _ ≤ _›).2.1 | skip); clear hk2))
            | (obtain ⟨Z', rfl, rfl, hI2, hk2⟩ := hq; (first | have hk3 := kp_to (by first | with_reducible assumption | assumption) (by rfl) hk2 | have hk3 := ks_to (by first | with_reducible assumption | assumption) (by rfl) hk2); (first | have hnbb := NBB_kp hk2 (by rfl) (‹_ ∧ NBB _ ∧ _ ≤ _ ∧ _ ≤ _›).2.1 | have hnbb := NBB_kp (kp_of hk2) (by rfl) (‹_ ∧ NBB _ ∧ _ ≤ _ ∧ _ ≤ _›).2.1 | skip); clear hk2))
         | (intro hc; (try simp only [cmp3_c] at hc); simp only [cmpI] at hc)
         | (show CI _; assumption)
         | intro (_ : Int)
         | intro (Z' : ZT)
         | intro (_ : CI _)
         | (intro (hkk : kp _ _ _))
         | intro (_ : _ ≤ _)
         | (intro (hup : _ = upZ _ _ _ _); (try dsimp only at hup))
         | (intro (hld : _ = _); (try dsimp only at hld); (try simp only [Nat.reduceAdd] at hld))
         | intro (_ : _ < _)
         | intro (_ : _ ≠ _)
         | intro (_ : _ ∨ _)))
  all_goals first
    | with_reducible rfl
    | ((with_reducible show _ = _); rfl)
    | ((with_reducible show recvG _ _); rfl)
    | with_reducible exact trivial
    | with_reducible assumption
    | ((fail_if_success (first | (with_reducible show _ ≤ _) | (with_reducible show _ = _) | (with_reducible show _ ∨ _) | (with_reducible show _ < _) | (with_reducible show G _ _ _ _))); (refine Exists.intro _ (Exists.intro _ (And.intro rfl (And.intro rfl ?_))); refine ⟨by assumption, by assumption, ?_⟩; (refine ⟨?_, trivial⟩; (first | done | focus (first | (dsimp only; done) | ((try dsimp only); ((first | with_reducible assumption | exact q2 | exact (‹_ ∧ NBB _ ∧ _ ≤ _ ∧ _ ≤ _›).2.1 | exact hnbb | fail))))))))
    | ((fail_if_success (first | (with_reducible show _ ≤ _) | (with_reducible show _ = _) | (with_reducible show _ ∨ _) | (with_reducible show _ < _) | (with_reducible show G _ _ _ _))); (refine Exists.intro _ (Exists.intro _ (And.intro rfl (And.intro rfl ?_))); refine ⟨by assumption, by assumption, ?_⟩; simp only [Nat.reduceAdd] at *; (refine ⟨?_, trivial⟩; (first | done | focus (first | (dsimp only; done) | ((try dsimp only); ((first | with_reducible assumption | exact q2 | exact (‹_ ∧ NBB _ ∧ _ ≤ _ ∧ _ ≤ _›).2.1 | exact hnbb | fail))))))))
    | omega
    | (dsimp only; omega)
    | decide
    | (show (0 : Int) < _; omega)
    | (show (0 : Int) < _; simp only [w64] at *; omega)
    | (simp only [w32, w64] at *; omega)
    | (first | omega | ((try dsimp only); (first | omega | (simp (disch := omega) only [w32_id, w64_id]; omega) | (simp only [w32, w64]; omega) | (with_reducible refine (and32_le ?_ ?_).1 <;> omega) | (with_reducible refine (and32_le ?_ ?_).2 <;> omega) | (with_reducible refine (mulR ?_ ?_ ?_ ?_).1 <;> omega) | (with_reducible refine (mulR ?_ ?_ ?_ ?_).2 <;> omega) | (simp only [w32, w64] at *; omega) | (simp (disch := omega) only [w32_id, w64_id] at *; omega) | (simp (disch := omega) only [tdiv_nn, tmod_nn, w32_id, w64_id] at *; omega) | (subst_vars; simp [upZ] at *; omega) | (subst_vars; simp [upZ] at *; simp only [w32, w64] at *; omega))) | fail)
    | ((with_reducible show swT _ _ _ _); exact trivial)
    | rfl
    | ((fail_if_success (first | (with_reducible show _ ≤ _) | (with_reducible show _ = _) | (with_reducible show _ ∨ _) | (with_reducible show _ < _) | (with_reducible show G _ _ _ _) | (with_reducible show Exists _))); exact trivial)
    | skip
def s_X10_leastB : Sp := rRI 1 10 (fun as Z => match as with
    | [.inr (.inr a0)] => ((a0 = 1)) ∧ (NBS Z) ∧ (NBF Z) ∧ (NBB Z) ∧ True
    | _ => False) (fun as => match as with
    | [.inr (.inr a0)] => [71, 73, 5070, 5072, 83, 84]
    | _ => []) (fun as Z (x : Int) Z' => match as with
    | [.inr (.inr a0)] => (NBB Z') ∧ True
    | _ => False)
set_option maxRecDepth 100000 in
set_option maxHeartbeats 40000000 in
theorem c_X10_leastB {l : Launch} {D : va_G} {cA : Nat → ClassId} : PM l D cA yX10_least cX10_least 1 (some .int) 6 164 s_X10_leastB := by
  refine of_X10_least (c_X1_toldSums) ⟨rfl, rfl⟩ (c_X1_agree) ⟨rfl, rfl⟩ (c_X10_reckonedN) ⟨rfl, rfl⟩ (c_X1_fewestCells) ⟨rfl, rfl⟩ (fun as σ hwf hao hpre => ?_)
  obtain ⟨n, Z, R⟩ := σ
  obtain ⟨hR, hI, hpre⟩ := hpre
  obtain rfl : R = R0 := hR
  (try replace hI : CI Z := hI)
  rcases as with _ | ⟨x | x | a0, _ | ⟨v, t⟩⟩ <;> first | exact (hpre : False).elim | skip
  obtain ⟨h0, q0, q1, q2, -⟩ := hpre
  have hk : kp ([71, 73, 5070, 5072, 83, 84]) Z Z := kp_refl
  refine ⟨Nat.le_of_ble_eq_true rfl, fun G hG => ?_⟩
  clear hao hwf
  (try dsimp only at q0)
  (try dsimp only at q1)
  (try dsimp only at q2)
  obtain rfl := h0
  refine wq_run hG n R0 [] 900 _ _ _ _ ?_
  repeat' (first
      | with_reducible rfl
      | ((with_reducible show NBS _); first | exact q0 | exact hnb)
      | ((with_reducible show NBF _); first | exact q1 | exact hnf)
      | ((with_reducible show FRR _); exact q0.1)
      | ((with_reducible show PLW _); exact q0.2.2.1)
      | ((with_reducible show ORD _ _); exact q0.2.2.2.2.1)
      | ((with_reducible show BM _ 70 2); exact q2.1)
      | ((with_reducible show BM _ 72 2); exact q2.2.1)
      | ((with_reducible show NBB _); exact q2)
      | refine And.intro ?_ ?_
      | with_reducible exact True.intro
      | ((with_reducible show _ = true); rfl)
      | ((with_reducible show recvG _ _); rfl)
      | ((with_reducible show CI _); first | with_reducible assumption | assumption)
      | (fail_if_success (first | (with_reducible show _ ≤ _) | (with_reducible show _ = _) | (with_reducible show _ ∨ _) | (with_reducible show _ < _) | (with_reducible show G _ _ _ _))
         first
         | show G _ _ _ _
         | (refine ld_bnd (by first | with_reducible assumption | assumption) rfl ?_; intro _ _ _ hld; (try dsimp only at hld); (try simp only [Nat.reduceAdd] at hld))
         | (refine st_k (by first | with_reducible assumption | assumption) (by first | with_reducible assumption | assumption) (by first | exact Or.inl (by decide) | exact Or.inr (by decide)) (fun lo hi hb => by first | (cases hb; done) | (cases hb; constructor <;> (first | omega | ((try dsimp only); (first | omega | (simp (disch := omega) only [w32_id, w64_id]; omega) | (simp only [w32, w64]; omega) | (with_reducible refine (and32_le ?_ ?_).1 <;> omega) | (with_reducible refine (and32_le ?_ ?_).2 <;> omega) | (with_reducible refine (mulR ?_ ?_ ?_ ?_).1 <;> omega) | (with_reducible refine (mulR ?_ ?_ ?_ ?_).2 <;> omega) | (simp only [w32, w64] at *; omega) | (simp (disch := omega) only [w32_id, w64_id] at *; omega) | (simp (disch := omega) only [tdiv_nn, tmod_nn, w32_id, w64_id] at *; omega) | (subst_vars; simp [upZ] at *; omega) | (subst_vars; simp [upZ] at *; simp only [w32, w64] at *; omega))) | fail))) ?_; intro Z' _ hkk; intro hld; (try dsimp only at hld); (try simp only [Nat.reduceAdd] at hld); intro hup; (try dsimp only at hup))
         | (refine st_k (by first | with_reducible assumption | assumption) (by first | with_reducible assumption | assumption) (by first | exact Or.inl (by decide) | exact Or.inr (by decide)) (fun lo hi hb => ?_) ?_; (cases hb; refine And.intro ?_ ?_))
         | refine st_same ?_
         | (intro (r : Option PV) σ' hq
            first
            | (obtain ⟨rfl, x, rfl, hp⟩ := hq; (try replace hp : _ ∧ _ := hp); (try dsimp only at hp))
            | (obtain ⟨Z', (o : Nat), rfl, rfl, hI2, hk2, ⟨⟨hp, rfl⟩ | ⟨hp, rfl⟩, -⟩⟩ := hq <;> ((first | have hk3 := kp_to (by first | with_reducible assumption | assumption) (by rfl) hk2 | have hk3 := ks_to (by first | with_reducible assumption | assumption) (by rfl) hk2); (try (have hkn := keeps_nil hk2; subst hkn)); (first | have hnbb := NBB_kp hk2 (by rfl) (‹_ ∧ NBB _ ∧ _ ≤ _ ∧ _ ≤ _›).2.1 | have hnbb := NBB_kp (kp_of hk2) (by rfl) (‹_ ∧ NBB _ ∧ _ ≤ _ ∧ _ ≤ _›).2.1 | skip); clear hk2))
            | (obtain ⟨Z', x, rfl, rfl, hI2, hk2, hp⟩ := hq; (try replace hp : _ ∧ _ := hp); (try dsimp only at hp); (first | have hk3 := kp_to (by first | with_reducible assumption | assumption) (by rfl) hk2 | have hk3 := ks_to (by first | with_reducible assumption | assumption) (by rfl) hk2); (try (have hkn := keeps_nil hk2; subst hkn)); (first | have hnbb := NBB_kp hk2 (by rfl) (‹_ ∧ NBB _ ∧ _ ≤ _ ∧ _ ≤ _›).2.1 | have hnbb := NBB_kp (kp_of hk2) (by rfl) (‹_ ∧ NBB _ ∧ _ ≤ _ ∧ _ ≤ _›).2.1 | skip); clear hk2)
            | (obtain ⟨Z', rfl, rfl, hI2, hk2, hp⟩ := hq; (try replace hp : _ ∧ _ := hp); (try dsimp only at hp); (first | have hk3 := kp_to (by first | with_reducible assumption | assumption) (by rfl) hk2 | have hk3 := ks_to (by first | with_reducible assumption | assumption) (by rfl) hk2); (try (have hkn := keeps_nil hk2; subst hkn)); (first | have hnbb := NBB_kp hk2 (by rfl) (‹_ ∧ NBB _ ∧ _ ≤ _ ∧ _ ≤ _›).2.1 | have hnbb := NBB_kp (kp_of hk2) (by rfl) (‹_ ∧ NBB _ ∧ _ ≤ _ ∧ _ ≤ _›).2.1 | skip); clear hk2)
            | (obtain ⟨rfl, rfl⟩ := hq)
            | (obtain ⟨Z', x, rfl, rfl, hI2, hk2⟩ := hq; have hkn := keeps_nil hk2; clear hk2; subst hkn)
            | (obtain ⟨Z', x, rfl, rfl, hI2, hk2⟩ := hq; (first | have hk3 := kp_to (by first | with_reducible assumption | assumption) (by rfl) hk2 | have hk3 := ks_to (by first | with_reducible assumption | assumption) (by rfl) hk2); (try (have hkn := keeps_nil hk2; subst hkn)); (first | have hnbb := NBB_kp hk2 (by rfl) (‹_ ∧ NBB _ ∧ _ ≤ _ ∧ _ ≤ _›).2.1 | have hnbb := NBB_kp (kp_of hk2) (by rfl) (‹_ ∧ NBB _ ∧ _ ≤ _ ∧ _ ≤ _›).2.1 | skip); clear hk2)
            | (rcases hq with ⟨Z', rfl, rfl, hI2, hk2⟩ | ⟨Z', rfl, rfl, hI2, hk2⟩ <;> ((first | have hk3 := kp_to (by first | with_reducible assumption | assumption) (by rfl) hk2 | have hk3 := ks_to (by first | with_reducible assumption | assumption) (by rfl) hk2); (try (have hkn := keeps_nil hk2; subst hkn)); (first | have hnbb := NBB_kp hk2 (by rfl) (‹_ ∧ NBB _ ∧ _ ≤ _ ∧ _ ≤ _›).2.1 | have hnbb := NBB_kp (kp_of hk2) (by rfl) (‹_ ∧ NBB _ ∧ _ ≤ _ ∧ _ ≤ _›).2.1 | skip); clear hk2))
            | (obtain ⟨Z', rfl, rfl, hI2, hk2⟩ := hq; (first | have hk3 := kp_to (by first | with_reducible assumption | assumption) (by rfl) hk2 | have hk3 := ks_to (by first | with_reducible assumption | assumption) (by rfl) hk2); (try (have hkn := keeps_nil hk2; subst hkn)); (first | have hnbb := NBB_kp hk2 (by rfl) (‹_ ∧ NBB _ ∧ _ ≤ _ ∧ _ ≤ _›).2.1 | have hnbb := NBB_kp (kp_of hk2) (by rfl) (‹_ ∧ NBB _ ∧ _ ≤ _ ∧ _ ≤ _›).2.1 | skip); clear hk2))
         | (intro hc; (try simp only [cmp3_c] at hc); simp only [cmpI] at hc)
         | (show CI _; assumption)
         | intro (_ : Int)
         | intro (Z' : ZT)
         | intro (_ : CI _)
         | (intro (hkk : kp _ _ _))
         | intro (_ : _ ≤ _)
         | (intro (hup : _ = upZ _ _ _ _); (try dsimp only at hup))
         | (intro (hld : _ = _); (try dsimp only at hld); (try simp only [Nat.reduceAdd] at hld))
         | intro (_ : _ < _)
         | intro (_ : _ ≠ _)
         | intro (_ : _ ∨ _)))
  all_goals first
    | with_reducible rfl
    | ((with_reducible show _ = _); rfl)
    | ((with_reducible show recvG _ _); rfl)
    | with_reducible exact trivial
    | with_reducible assumption
    | ((fail_if_success (first | (with_reducible show _ ≤ _) | (with_reducible show _ = _) | (with_reducible show _ ∨ _) | (with_reducible show _ < _) | (with_reducible show G _ _ _ _))); (refine Exists.intro _ (Exists.intro _ (And.intro rfl (And.intro rfl ?_))); refine ⟨by assumption, by assumption, ?_⟩; (refine ⟨?_, trivial⟩; (first | done | focus (first | (dsimp only; done) | ((try dsimp only); ((first | with_reducible assumption | exact q2 | exact (‹_ ∧ NBB _ ∧ _ ≤ _ ∧ _ ≤ _›).2.1 | exact hnbb | fail))))))))
    | ((fail_if_success (first | (with_reducible show _ ≤ _) | (with_reducible show _ = _) | (with_reducible show _ ∨ _) | (with_reducible show _ < _) | (with_reducible show G _ _ _ _))); (refine Exists.intro _ (Exists.intro _ (And.intro rfl (And.intro rfl ?_))); refine ⟨by assumption, by assumption, ?_⟩; simp only [Nat.reduceAdd] at *; (refine ⟨?_, trivial⟩; (first | done | focus (first | (dsimp only; done) | ((try dsimp only); ((first | with_reducible assumption | exact q2 | exact (‹_ ∧ NBB _ ∧ _ ≤ _ ∧ _ ≤ _›).2.1 | exact hnbb | fail))))))))
    | omega
    | (dsimp only; omega)
    | decide
    | (show (0 : Int) < _; omega)
    | (show (0 : Int) < _; simp only [w64] at *; omega)
    | (simp only [w32, w64] at *; omega)
    | (first | omega | ((try dsimp only); (first | omega | (simp (disch := omega) only [w32_id, w64_id]; omega) | (simp only [w32, w64]; omega) | (with_reducible refine (and32_le ?_ ?_).1 <;> omega) | (with_reducible refine (and32_le ?_ ?_).2 <;> omega) | (with_reducible refine (mulR ?_ ?_ ?_ ?_).1 <;> omega) | (with_reducible refine (mulR ?_ ?_ ?_ ?_).2 <;> omega) | (simp only [w32, w64] at *; omega) | (simp (disch := omega) only [w32_id, w64_id] at *; omega) | (simp (disch := omega) only [tdiv_nn, tmod_nn, w32_id, w64_id] at *; omega) | (subst_vars; simp [upZ] at *; omega) | (subst_vars; simp [upZ] at *; simp only [w32, w64] at *; omega))) | fail)
    | ((with_reducible show swT _ _ _ _); exact trivial)
    | rfl
    | ((fail_if_success (first | (with_reducible show _ ≤ _) | (with_reducible show _ = _) | (with_reducible show _ ∨ _) | (with_reducible show _ < _) | (with_reducible show G _ _ _ _) | (with_reducible show Exists _))); exact trivial)
    | skip
def s_X10_reckonWithoutN : Sp := rRV 3 10 (fun as Z => match as with
    | [.inr (.inr a0), .inl a1, .inl a2] => ((a0 = 1)) ∧ (True) ∧ (True) ∧ (NBS Z) ∧ (NBF Z) ∧ (NBB Z) ∧ (0 ≤ a2 ∧ a2 ≤ 12) ∧ True
    | _ => False) (fun as => match as with
    | [.inr (.inr a0), .inl a1, .inl a2] => [73, 75, 4074, 5072, 5074]
    | _ => []) (fun as Z Z' => match as with
    | [.inr (.inr a0), .inl a1, .inl a2] => (NBB Z') ∧ (Z' 74 3 = a1) ∧ (a2 ≤ Z' 74 4 ∧ 0 ≤ Z' 74 4) ∧ (a2 ≤ Z' 72 4 ∧ 0 ≤ Z' 72 4) ∧ True
    | _ => False)
set_option maxRecDepth 100000 in
set_option maxHeartbeats 40000000 in
theorem c_X10_reckonWithoutN {l : Launch} {D : va_G} {cA : Nat → ClassId} : PM l D cA yX10_reckonWithout cX10_reckonWithout 3 none 5 141 s_X10_reckonWithoutN := by
  refine of_X10_reckonWithout (c_X0_restartN) ⟨rfl, rfl⟩ (c_X0_reachN) ⟨rfl, rfl⟩ (fun as σ hwf hao hpre => ?_)
  obtain ⟨n, Z, R⟩ := σ
  obtain ⟨hR, hI, hpre⟩ := hpre
  obtain rfl : R = R0 := hR
  (try replace hI : CI Z := hI)
  rcases as with _ | ⟨x | x | a0, _ | ⟨a1 | x | x, _ | ⟨a2 | x | x, _ | ⟨v, t⟩⟩⟩⟩ <;> first | exact (hpre : False).elim | skip
  obtain ⟨k1l, k1u⟩ : okI a1 := hao (vi a1) (by simp)
  obtain ⟨k2l, k2u⟩ : okI a2 := hao (vi a2) (by simp)
  obtain ⟨h0, h1, h2, q0, q1, q2, q3, -⟩ := hpre
  have hk : kp ([73, 75, 4074, 5072, 5074]) Z Z := kp_refl
  refine ⟨Nat.le_of_ble_eq_true rfl, fun G hG => ?_⟩
  clear hao hwf
  (try dsimp only at q0)
  (try dsimp only at q1)
  (try dsimp only at q2)
  (try dsimp only at q3)
  obtain rfl := h0
  have hb70 : BM Z 70 2 := q2.1
  have hb72 : BM Z 72 2 := q2.2.1
  have hb74 : BM Z 74 2 := q2.2.2.1
  have hb76 : B76 Z := q2.2.2.2
  have hns := q0
  have hnf := q1
  refine wq_run hG n R0 [] 900 _ _ _ _ ?_
  repeat' (first
      | with_reducible rfl
      | ((with_reducible show NBS _); first | exact hns | exact q0)
      | ((with_reducible show NBF _); first | exact hnf | exact q1)
      | ((with_reducible show FRR _); exact hns.1)
      | ((with_reducible show PLW _); exact hns.2.2.1)
      | ((with_reducible show ORD _ _); exact hns.2.2.2.2.1)
      | ((with_reducible show BM _ 70 2); exact hb70)
      | ((with_reducible show BM _ 72 2); exact hb72)
      | ((with_reducible show BM _ 74 2); first | exact hb74 | exact BM_n (by omega))
      | ((with_reducible show NBB _); exact NBB_i hb70 hb72 hb74 hb76)
      | refine And.intro ?_ ?_
      | with_reducible exact True.intro
      | ((with_reducible show _ = true); rfl)
      | ((with_reducible show recvG _ _); rfl)
      | ((with_reducible show CI _); first | with_reducible assumption | assumption)
      | (fail_if_success (first | (with_reducible show _ ≤ _) | (with_reducible show _ = _) | (with_reducible show _ ∨ _) | (with_reducible show _ < _) | (with_reducible show G _ _ _ _))
         first
         | show G _ _ _ _
         | (refine ld_bnd (by first | with_reducible assumption | assumption) rfl ?_; intro _ _ _ hld; (try dsimp only at hld); (try simp only [Nat.reduceAdd] at hld))
         | (refine st_k (by first | with_reducible assumption | assumption) (by first | with_reducible assumption | assumption) (by first | exact Or.inl (by decide) | exact Or.inr (by decide)) (fun lo hi hb => by first | (cases hb; done) | (cases hb; constructor <;> (first | omega | ((try dsimp only); (first | omega | (simp (disch := omega) only [w32_id, w64_id]; omega) | (simp only [w32, w64]; omega) | (with_reducible refine (and32_le ?_ ?_).1 <;> omega) | (with_reducible refine (and32_le ?_ ?_).2 <;> omega) | (with_reducible refine (mulR ?_ ?_ ?_ ?_).1 <;> omega) | (with_reducible refine (mulR ?_ ?_ ?_ ?_).2 <;> omega) | (simp only [w32, w64] at *; omega) | (simp (disch := omega) only [w32_id, w64_id] at *; omega) | (simp (disch := omega) only [tdiv_nn, tmod_nn, w32_id, w64_id] at *; omega) | (subst_vars; simp [upZ] at *; omega) | (subst_vars; simp [upZ] at *; simp only [w32, w64] at *; omega))) | fail))) ?_; intro Z' _ hkk; intro hld; (try dsimp only at hld); (try simp only [Nat.reduceAdd] at hld); intro hup; (try dsimp only at hup); (first | have := (congrFun (congrFun hup 74) 3).trans (up_ne (by decide)) | have := (congrFun (congrFun hup 74) 3).trans (up_nk (o := 74) (by decide)) | skip); (first | have := (congrFun (congrFun hup 74) 4).trans (up_ne (by decide)) | have := (congrFun (congrFun hup 74) 4).trans (up_nk (o := 74) (by decide)) | skip); (try have hb70 := BMk 70 2 (kp_one hup) (by rfl) hb70); (try have hb72 := BMk 72 2 (kp_one hup) (by rfl) hb72); (try have hb74 := BMk 74 2 (kp_one hup) (by rfl) hb74); (try have hb76 := B76k (kp_one hup) (by rfl) hb76); (try have hns := NBS_kp (kp_one hup) (by rfl) hns); (try have hnf := NBF_k (kp_one hup) (by rfl) hnf))
         | (refine st_k (by first | with_reducible assumption | assumption) (by first | with_reducible assumption | assumption) (by first | exact Or.inl (by decide) | exact Or.inr (by decide)) (fun lo hi hb => ?_) ?_; (cases hb; refine And.intro ?_ ?_))
         | refine st_same ?_
         | (intro (r : Option PV) σ' hq
            first
            | (obtain ⟨rfl, x, rfl, hp⟩ := hq; (try replace hp : _ ∧ _ := hp); (try dsimp only at hp); (first | (have hb70 : BM _ 70 2 := hp.2.1; have hd70 := hp.1) | (have hb72 : BM _ 72 2 := hp.2.1; have hd72 := hp.1) | (have hb74 : BM _ 74 2 := hp.2.1; have hd74 := hp.1) | (have hbs : BM _ 76 4 := hp.2.1; have hd76 := hp.1) | skip))
            | (obtain ⟨Z', (o : Nat), rfl, rfl, hI2, hk2, ⟨⟨hp, rfl⟩ | ⟨hp, rfl⟩, -⟩⟩ := hq <;> ((first | have hk3 := kp_to (by first | with_reducible assumption | assumption) (by rfl) hk2 | have hk3 := ks_to (by first | with_reducible assumption | assumption) (by rfl) hk2); (try have hb70 := BMk 70 2 hk2 (by rfl) hb70); (try have hb72 := BMk 72 2 hk2 (by rfl) hb72); (try have hb74 := BMk 74 2 hk2 (by rfl) hb74); (try have hb76 := B76k hk2 (by rfl) hb76); (try have hns := NBS_kp hk2 (by rfl) hns); (try have hnf := NBF_k hk2 (by rfl) hnf); (first | have := kpF 74 3 hk2 (by rfl) | have := ksF 74 3 hk2 (by rfl) | skip); (try dsimp only at this); (first | have := kpF 74 4 hk2 (by rfl) | have := ksF 74 4 hk2 (by rfl) | skip); (try dsimp only at this); (first | have := kpF 72 4 hk2 (by rfl) | have := ksF 72 4 hk2 (by rfl) | skip); (try dsimp only at this); clear hk2))
            | (obtain ⟨Z', x, rfl, rfl, hI2, hk2, hp⟩ := hq; (try replace hp : _ ∧ _ := hp); (try dsimp only at hp); (first | have hk3 := kp_to (by first | with_reducible assumption | assumption) (by rfl) hk2 | have hk3 := ks_to (by first | with_reducible assumption | assumption) (by rfl) hk2); (try have hb70 := BMk 70 2 hk2 (by rfl) hb70); (try have hb72 := BMk 72 2 hk2 (by rfl) hb72); (try have hb74 := BMk 74 2 hk2 (by rfl) hb74); (try have hb76 := B76k hk2 (by rfl) hb76); (try have hns := NBS_kp hk2 (by rfl) hns); (try have hnf := NBF_k hk2 (by rfl) hnf); (first | have := kpF 74 3 hk2 (by rfl) | have := ksF 74 3 hk2 (by rfl) | skip); (try dsimp only at this); (first | have := kpF 74 4 hk2 (by rfl) | have := ksF 74 4 hk2 (by rfl) | skip); (try dsimp only at this); (first | have := kpF 72 4 hk2 (by rfl) | have := ksF 72 4 hk2 (by rfl) | skip); (try dsimp only at this); clear hk2; (first | (have hb70 : BM _ 70 2 := hp.2.1; have hd70 := hp.1) | (have hb72 : BM _ 72 2 := hp.2.1; have hd72 := hp.1) | (have hb74 : BM _ 74 2 := hp.2.1; have hd74 := hp.1) | (have hbs : BM _ 76 4 := hp.2.1; have hd76 := hp.1) | skip))
            | (obtain ⟨Z', rfl, rfl, hI2, hk2, hp⟩ := hq; (try replace hp : _ ∧ _ := hp); (try dsimp only at hp); (first | have hk3 := kp_to (by first | with_reducible assumption | assumption) (by rfl) hk2 | have hk3 := ks_to (by first | with_reducible assumption | assumption) (by rfl) hk2); (try have hb70 := BMk 70 2 hk2 (by rfl) hb70); (try have hb72 := BMk 72 2 hk2 (by rfl) hb72); (try have hb74 := BMk 74 2 hk2 (by rfl) hb74); (try have hb76 := B76k hk2 (by rfl) hb76); (try have hns := NBS_kp hk2 (by rfl) hns); (try have hnf := NBF_k hk2 (by rfl) hnf); (first | have := kpF 74 3 hk2 (by rfl) | have := ksF 74 3 hk2 (by rfl) | skip); (try dsimp only at this); (first | have := kpF 74 4 hk2 (by rfl) | have := ksF 74 4 hk2 (by rfl) | skip); (try dsimp only at this); (first | have := kpF 72 4 hk2 (by rfl) | have := ksF 72 4 hk2 (by rfl) | skip); (try dsimp only at this); clear hk2; (first | (have hb70 : BM _ 70 2 := hp.2.1; have hd70 := hp.1) | (have hb72 : BM _ 72 2 := hp.2.1; have hd72 := hp.1) | (have hb74 : BM _ 74 2 := hp.2.1; have hd74 := hp.1) | (have hbs : BM _ 76 4 := hp.2.1; have hd76 := hp.1) | skip))
            | (obtain ⟨rfl, rfl⟩ := hq)
            | (obtain ⟨Z', x, rfl, rfl, hI2, hk2⟩ := hq; have hkn := keeps_nil hk2; clear hk2; subst hkn)
            | (obtain ⟨Z', x, rfl, rfl, hI2, hk2⟩ := hq; (first | have hk3 := kp_to (by first | with_reducible assumption | assumption) (by rfl) hk2 | have hk3 := ks_to (by first | with_reducible assumption | assumption) (by rfl) hk2); (try have hb70 := BMk 70 2 hk2 (by rfl) hb70); (try have hb72 := BMk 72 2 hk2 (by rfl) hb72); (try have hb74 := BMk 74 2 hk2 (by rfl) hb74); (try have hb76 := B76k hk2 (by rfl) hb76); (try have hns := NBS_kp hk2 (by rfl) hns); (try have hnf := NBF_k hk2 (by rfl) hnf); (first | have := kpF 74 3 hk2 (by rfl) | have := ksF 74 3 hk2 (by rfl) | skip); (try dsimp only at this); (first | have := kpF 74 4 hk2 (by rfl) | have := ksF 74 4 hk2 (by rfl) | skip); (try dsimp only at this); (first | have := kpF 72 4 hk2 (by rfl) | have := ksF 72 4 hk2 (by rfl) | skip); (try dsimp only at this); clear hk2)
            | (rcases hq with ⟨Z', rfl, rfl, hI2, hk2⟩ | ⟨Z', rfl, rfl, hI2, hk2⟩ <;> ((first | have hk3 := kp_to (by first | with_reducible assumption | assumption) (by rfl) hk2 | have hk3 := ks_to (by first | with_reducible assumption | assumption) (by rfl) hk2); (try have hb70 := BMk 70 2 hk2 (by rfl) hb70); (try have hb72 := BMk 72 2 hk2 (by rfl) hb72); (try have hb74 := BMk 74 2 hk2 (by rfl) hb74); (try have hb76 := B76k hk2 (by rfl) hb76); (try have hns := NBS_kp hk2 (by rfl) hns); (try have hnf := NBF_k hk2 (by rfl) hnf); (first | have := kpF 74 3 hk2 (by rfl) | have := ksF 74 3 hk2 (by rfl) | skip); (try dsimp only at this); (first | have := kpF 74 4 hk2 (by rfl) | have := ksF 74 4 hk2 (by rfl) | skip); (try dsimp only at this); (first | have := kpF 72 4 hk2 (by rfl) | have := ksF 72 4 hk2 (by rfl) | skip); (try dsimp only at this); clear hk2))
            | (obtain ⟨Z', rfl, rfl, hI2, hk2⟩ := hq; (first | have hk3 := kp_to (by first | with_reducible assumption | assumption) (by rfl) hk2 | have hk3 := ks_to (by first | with_reducible assumption | assumption) (by rfl) hk2); (try have hb70 := BMk 70 2 hk2 (by rfl) hb70); (try have hb72 := BMk 72 2 hk2 (by rfl) hb72); (try have hb74 := BMk 74 2 hk2 (by rfl) hb74); (try have hb76 := B76k hk2 (by rfl) hb76); (try have hns := NBS_kp hk2 (by rfl) hns); (try have hnf := NBF_k hk2 (by rfl) hnf); (first | have := kpF 74 3 hk2 (by rfl) | have := ksF 74 3 hk2 (by rfl) | skip); (try dsimp only at this); (first | have := kpF 74 4 hk2 (by rfl) | have := ksF 74 4 hk2 (by rfl) | skip); (try dsimp only at this); (first | have := kpF 72 4 hk2 (by rfl) | have := ksF 72 4 hk2 (by rfl) | skip); (try dsimp only at this); clear hk2))
         | (intro hc; (try simp only [cmp3_c] at hc); simp only [cmpI] at hc)
         | (show CI _; assumption)
         | intro (_ : Int)
         | intro (Z' : ZT)
         | intro (_ : CI _)
         | (intro (hkk : kp _ _ _))
         | intro (_ : _ ≤ _)
         | (intro (hup : _ = upZ _ _ _ _); (try dsimp only at hup); (first | have := (congrFun (congrFun hup 74) 3).trans (up_ne (by decide)) | have := (congrFun (congrFun hup 74) 3).trans (up_nk (o := 74) (by decide)) | skip); (first | have := (congrFun (congrFun hup 74) 4).trans (up_ne (by decide)) | have := (congrFun (congrFun hup 74) 4).trans (up_nk (o := 74) (by decide)) | skip); (try have hb70 := BMk 70 2 (kp_one hup) (by rfl) hb70); (try have hb72 := BMk 72 2 (kp_one hup) (by rfl) hb72); (try have hb74 := BMk 74 2 (kp_one hup) (by rfl) hb74); (try have hb76 := B76k (kp_one hup) (by rfl) hb76); (try have hns := NBS_kp (kp_one hup) (by rfl) hns); (try have hnf := NBF_k (kp_one hup) (by rfl) hnf))
         | (intro (hld : _ = _); (try dsimp only at hld); (try simp only [Nat.reduceAdd] at hld))
         | intro (_ : _ < _)
         | intro (_ : _ ≠ _)
         | intro (_ : _ ∨ _)))
  all_goals first
    | with_reducible rfl
    | ((with_reducible show _ = _); rfl)
    | ((with_reducible show recvG _ _); rfl)
    | with_reducible exact trivial
    | with_reducible assumption
    | ((with_reducible show NRW _ 2); exact hns.2.1)
    | ((with_reducible show NWC _); exact hns.2.2.2.1)
    | ((with_reducible show _ = _); first | exact hnf.1.1 | exact hnf.1.2.1 | exact hnf.1.2.2.1 | exact hnf.1.2.2.2)
    | ((with_reducible show _ ≤ _); (show _ ≤ (36 : Int)); have hgc := (by assumption : CI _) 2 2 4 36 rfl; exact hgc.2)
    | ((with_reducible show _ ≤ _); (try dsimp only); have hsr := hns.2.2.2.2.2; omega)
    | ((fail_if_success (first | (with_reducible show _ ≤ _) | (with_reducible show _ = _) | (with_reducible show _ ∨ _) | (with_reducible show _ < _) | (with_reducible show G _ _ _ _))); (refine Exists.intro _ (And.intro rfl (And.intro rfl ?_)); refine ⟨by assumption, by assumption, ?_⟩; (refine ⟨?_, ?_, ?_, ?_, trivial⟩; (first | done | focus (first | (dsimp only; done) | ((try dsimp only); ((exact NBB_i hb70 hb72 hb74 hb76))))); (first | done | focus (first | (dsimp only; done) | ((try dsimp only); (first | omega | with_reducible assumption | with_reducible rfl | (first | omega | ((try dsimp only); (first | omega | (simp (disch := omega) only [w32_id, w64_id]; omega) | (simp only [w32, w64]; omega) | (with_reducible refine (and32_le ?_ ?_).1 <;> omega) | (with_reducible refine (and32_le ?_ ?_).2 <;> omega) | (with_reducible refine (mulR ?_ ?_ ?_ ?_).1 <;> omega) | (with_reducible refine (mulR ?_ ?_ ?_ ?_).2 <;> omega) | (simp only [w32, w64] at *; omega) | (simp (disch := omega) only [w32_id, w64_id] at *; omega) | (simp (disch := omega) only [tdiv_nn, tmod_nn, w32_id, w64_id] at *; omega) | (subst_vars; simp [upZ] at *; omega) | (subst_vars; simp [upZ] at *; simp only [w32, w64] at *; omega))) | fail) | fail)))); (first | done | focus (first | (dsimp only; done) | ((try dsimp only); ((first | omega | (have h1 := hd74.1; have h2 := hd74.2; exact ⟨by omega, by omega⟩) | fail))))); (first | done | focus (first | (dsimp only; done) | ((try dsimp only); ((first | omega | exact hd72 | fail))))))))
    | ((fail_if_success (first | (with_reducible show _ ≤ _) | (with_reducible show _ = _) | (with_reducible show _ ∨ _) | (with_reducible show _ < _) | (with_reducible show G _ _ _ _))); (refine Exists.intro _ (And.intro rfl (And.intro rfl ?_)); refine ⟨by assumption, by assumption, ?_⟩; simp only [Nat.reduceAdd] at *; (refine ⟨?_, ?_, ?_, ?_, trivial⟩; (first | done | focus (first | (dsimp only; done) | ((try dsimp only); ((exact NBB_i hb70 hb72 hb74 hb76))))); (first | done | focus (first | (dsimp only; done) | ((try dsimp only); (first | omega | with_reducible assumption | with_reducible rfl | (first | omega | ((try dsimp only); (first | omega | (simp (disch := omega) only [w32_id, w64_id]; omega) | (simp only [w32, w64]; omega) | (with_reducible refine (and32_le ?_ ?_).1 <;> omega) | (with_reducible refine (and32_le ?_ ?_).2 <;> omega) | (with_reducible refine (mulR ?_ ?_ ?_ ?_).1 <;> omega) | (with_reducible refine (mulR ?_ ?_ ?_ ?_).2 <;> omega) | (simp only [w32, w64] at *; omega) | (simp (disch := omega) only [w32_id, w64_id] at *; omega) | (simp (disch := omega) only [tdiv_nn, tmod_nn, w32_id, w64_id] at *; omega) | (subst_vars; simp [upZ] at *; omega) | (subst_vars; simp [upZ] at *; simp only [w32, w64] at *; omega))) | fail) | fail)))); (first | done | focus (first | (dsimp only; done) | ((try dsimp only); ((first | omega | (have h1 := hd74.1; have h2 := hd74.2; exact ⟨by omega, by omega⟩) | fail))))); (first | done | focus (first | (dsimp only; done) | ((try dsimp only); ((first | omega | exact hd72 | fail))))))))
    | omega
    | (dsimp only; omega)
    | decide
    | (show (0 : Int) < _; omega)
    | (show (0 : Int) < _; simp only [w64] at *; omega)
    | (simp only [w32, w64] at *; omega)
    | (first | omega | ((try dsimp only); (first | omega | (simp (disch := omega) only [w32_id, w64_id]; omega) | (simp only [w32, w64]; omega) | (with_reducible refine (and32_le ?_ ?_).1 <;> omega) | (with_reducible refine (and32_le ?_ ?_).2 <;> omega) | (with_reducible refine (mulR ?_ ?_ ?_ ?_).1 <;> omega) | (with_reducible refine (mulR ?_ ?_ ?_ ?_).2 <;> omega) | (simp only [w32, w64] at *; omega) | (simp (disch := omega) only [w32_id, w64_id] at *; omega) | (simp (disch := omega) only [tdiv_nn, tmod_nn, w32_id, w64_id] at *; omega) | (subst_vars; simp [upZ] at *; omega) | (subst_vars; simp [upZ] at *; simp only [w32, w64] at *; omega))) | fail)
    | ((with_reducible show swT _ _ _ _); exact trivial)
    | rfl
    | ((fail_if_success (first | (with_reducible show _ ≤ _) | (with_reducible show _ = _) | (with_reducible show _ ∨ _) | (with_reducible show _ < _) | (with_reducible show G _ _ _ _) | (with_reducible show Exists _))); exact trivial)
    | skip
def s_X10_spreadB : Sp := rRI 4 10 (fun as Z => match as with
    | [.inr (.inr a0), .inl a1, .inl a2, .inl a3] => ((a0 = 1)) ∧ (True) ∧ (True) ∧ (True) ∧ (NBS Z) ∧ (NBF Z) ∧ (NBB Z) ∧ True
    | _ => False) (fun as => match as with
    | [.inr (.inr a0), .inl a1, .inl a2, .inl a3] => [73, 75, 4074, 5072, 5074]
    | _ => []) (fun as Z (x : Int) Z' => match as with
    | [.inr (.inr a0), .inl a1, .inl a2, .inl a3] => (NBB Z') ∧ True
    | _ => False)
set_option maxRecDepth 100000 in
set_option maxHeartbeats 40000000 in
theorem c_X10_spreadB {l : Launch} {D : va_G} {cA : Nat → ClassId} : PM l D cA yX10_spread cX10_spread 4 (some .int) 6 163 s_X10_spreadB := by
  refine of_X10_spread (c_X10_isLaterStep) ⟨rfl, rfl⟩ (c_X10_reckonWithoutN) ⟨rfl, rfl⟩ (c_X10_otherwiseUpTo) ⟨rfl, rfl⟩ (c_X10_lastOtherwise) ⟨rfl, rfl⟩ (c_X10_otherwiseIn) ⟨rfl, rfl⟩ (fun as σ hwf hao hpre => ?_)
  obtain ⟨n, Z, R⟩ := σ
  obtain ⟨hR, hI, hpre⟩ := hpre
  obtain rfl : R = R0 := hR
  (try replace hI : CI Z := hI)
  rcases as with _ | ⟨x | x | a0, _ | ⟨a1 | x | x, _ | ⟨a2 | x | x, _ | ⟨a3 | x | x, _ | ⟨v, t⟩⟩⟩⟩⟩ <;> first | exact (hpre : False).elim | skip
  obtain ⟨k1l, k1u⟩ : okI a1 := hao (vi a1) (by simp)
  obtain ⟨k2l, k2u⟩ : okI a2 := hao (vi a2) (by simp)
  obtain ⟨k3l, k3u⟩ : okI a3 := hao (vi a3) (by simp)
  obtain ⟨h0, h1, h2, h3, q0, q1, q2, -⟩ := hpre
  have hk : kp ([73, 75, 4074, 5072, 5074]) Z Z := kp_refl
  refine ⟨Nat.le_of_ble_eq_true rfl, fun G hG => ?_⟩
  clear hao hwf
  (try dsimp only at q0)
  (try dsimp only at q1)
  (try dsimp only at q2)
  obtain rfl := h0
  refine wq_run hG n R0 [] 900 _ _ _ _ ?_
  repeat' (first
      | with_reducible rfl
      | ((with_reducible show NBS _); first | exact q0 | exact hnb)
      | ((with_reducible show NBF _); first | exact q1 | exact hnf)
      | ((with_reducible show FRR _); exact q0.1)
      | ((with_reducible show PLW _); exact q0.2.2.1)
      | ((with_reducible show ORD _ _); exact q0.2.2.2.2.1)
      | ((with_reducible show BM _ 70 2); exact q2.1)
      | ((with_reducible show BM _ 72 2); exact q2.2.1)
      | ((with_reducible show NBB _); exact q2)
      | refine And.intro ?_ ?_
      | with_reducible exact True.intro
      | ((with_reducible show _ = true); rfl)
      | ((with_reducible show recvG _ _); rfl)
      | ((with_reducible show CI _); first | with_reducible assumption | assumption)
      | (fail_if_success (first | (with_reducible show _ ≤ _) | (with_reducible show _ = _) | (with_reducible show _ ∨ _) | (with_reducible show _ < _) | (with_reducible show G _ _ _ _))
         first
         | show G _ _ _ _
         | (refine ld_bnd (by first | with_reducible assumption | assumption) rfl ?_; intro _ _ _ hld; (try dsimp only at hld); (try simp only [Nat.reduceAdd] at hld))
         | (refine st_k (by first | with_reducible assumption | assumption) (by first | with_reducible assumption | assumption) (by first | exact Or.inl (by decide) | exact Or.inr (by decide)) (fun lo hi hb => by first | (cases hb; done) | (cases hb; constructor <;> (first | omega | ((try dsimp only); (first | omega | (simp (disch := omega) only [w32_id, w64_id]; omega) | (simp only [w32, w64]; omega) | (with_reducible refine (and32_le ?_ ?_).1 <;> omega) | (with_reducible refine (and32_le ?_ ?_).2 <;> omega) | (with_reducible refine (mulR ?_ ?_ ?_ ?_).1 <;> omega) | (with_reducible refine (mulR ?_ ?_ ?_ ?_).2 <;> omega) | (simp only [w32, w64] at *; omega) | (simp (disch := omega) only [w32_id, w64_id] at *; omega) | (simp (disch := omega) only [tdiv_nn, tmod_nn, w32_id, w64_id] at *; omega) | (subst_vars; simp [upZ] at *; omega) | (subst_vars; simp [upZ] at *; simp only [w32, w64] at *; omega))) | fail))) ?_; intro Z' _ hkk; intro hld; (try dsimp only at hld); (try simp only [Nat.reduceAdd] at hld); intro hup; (try dsimp only at hup))
         | (refine st_k (by first | with_reducible assumption | assumption) (by first | with_reducible assumption | assumption) (by first | exact Or.inl (by decide) | exact Or.inr (by decide)) (fun lo hi hb => ?_) ?_; (cases hb; refine And.intro ?_ ?_))
         | refine st_same ?_
         | (intro (r : Option PV) σ' hq
            first
            | (obtain ⟨rfl, x, rfl, hp⟩ := hq; (try replace hp : _ ∧ _ := hp); (try dsimp only at hp); (try (have hnbb : NBB _ := hp.1)))
            | (obtain ⟨Z', (o : Nat), rfl, rfl, hI2, hk2, ⟨⟨hp, rfl⟩ | ⟨hp, rfl⟩, -⟩⟩ := hq <;> ((first | have hk3 := kp_to (by first | with_reducible assumption | assumption) (by rfl) hk2 | have hk3 := ks_to (by first | with_reducible assumption | assumption) (by rfl) hk2); clear hk2))
            | (obtain ⟨Z', x, rfl, rfl, hI2, hk2, hp⟩ := hq; (try replace hp : _ ∧ _ := hp); (try dsimp only at hp); (first | have hk3 := kp_to (by first | with_reducible assumption | assumption) (by rfl) hk2 | have hk3 := ks_to (by first | with_reducible assumption | assumption) (by rfl) hk2); clear hk2; (try (have hnbb : NBB _ := hp.1)))
            | (obtain ⟨Z', rfl, rfl, hI2, hk2, hp⟩ := hq; (try replace hp : _ ∧ _ := hp); (try dsimp only at hp); (first | have hk3 := kp_to (by first | with_reducible assumption | assumption) (by rfl) hk2 | have hk3 := ks_to (by first | with_reducible assumption | assumption) (by rfl) hk2); clear hk2; (try (have hnbb : NBB _ := hp.1)))
            | (obtain ⟨rfl, rfl⟩ := hq)
            | (obtain ⟨Z', x, rfl, rfl, hI2, hk2⟩ := hq; have hkn := keeps_nil hk2; clear hk2; subst hkn)
            | (obtain ⟨Z', x, rfl, rfl, hI2, hk2⟩ := hq; (first | have hk3 := kp_to (by first | with_reducible assumption | assumption) (by rfl) hk2 | have hk3 := ks_to (by first | with_reducible assumption | assumption) (by rfl) hk2); clear hk2)
            | (rcases hq with ⟨Z', rfl, rfl, hI2, hk2⟩ | ⟨Z', rfl, rfl, hI2, hk2⟩ <;> ((first | have hk3 := kp_to (by first | with_reducible assumption | assumption) (by rfl) hk2 | have hk3 := ks_to (by first | with_reducible assumption | assumption) (by rfl) hk2); clear hk2))
            | (obtain ⟨Z', rfl, rfl, hI2, hk2⟩ := hq; (first | have hk3 := kp_to (by first | with_reducible assumption | assumption) (by rfl) hk2 | have hk3 := ks_to (by first | with_reducible assumption | assumption) (by rfl) hk2); clear hk2))
         | (intro hc; (try simp only [cmp3_c] at hc); simp only [cmpI] at hc)
         | (show CI _; assumption)
         | intro (_ : Int)
         | intro (Z' : ZT)
         | intro (_ : CI _)
         | (intro (hkk : kp _ _ _))
         | intro (_ : _ ≤ _)
         | (intro (hup : _ = upZ _ _ _ _); (try dsimp only at hup))
         | (intro (hld : _ = _); (try dsimp only at hld); (try simp only [Nat.reduceAdd] at hld))
         | intro (_ : _ < _)
         | intro (_ : _ ≠ _)
         | intro (_ : _ ∨ _)))
  all_goals first
    | with_reducible rfl
    | ((with_reducible show _ = _); rfl)
    | ((with_reducible show recvG _ _); rfl)
    | with_reducible exact trivial
    | with_reducible assumption
    | ((fail_if_success (first | (with_reducible show _ ≤ _) | (with_reducible show _ = _) | (with_reducible show _ ∨ _) | (with_reducible show _ < _) | (with_reducible show G _ _ _ _))); (refine Exists.intro _ (Exists.intro _ (And.intro rfl (And.intro rfl ?_))); refine ⟨by assumption, by assumption, ?_⟩; (refine ⟨?_, trivial⟩; (first | done | focus (first | (dsimp only; done) | ((try dsimp only); ((first | exact q2 | with_reducible assumption | exact hnbb | fail))))))))
    | ((fail_if_success (first | (with_reducible show _ ≤ _) | (with_reducible show _ = _) | (with_reducible show _ ∨ _) | (with_reducible show _ < _) | (with_reducible show G _ _ _ _))); (refine Exists.intro _ (Exists.intro _ (And.intro rfl (And.intro rfl ?_))); refine ⟨by assumption, by assumption, ?_⟩; simp only [Nat.reduceAdd] at *; (refine ⟨?_, trivial⟩; (first | done | focus (first | (dsimp only; done) | ((try dsimp only); ((first | exact q2 | with_reducible assumption | exact hnbb | fail))))))))
    | omega
    | (dsimp only; omega)
    | decide
    | (show (0 : Int) < _; omega)
    | (show (0 : Int) < _; simp only [w64] at *; omega)
    | (simp only [w32, w64] at *; omega)
    | (first | omega | ((try dsimp only); (first | omega | (simp (disch := omega) only [w32_id, w64_id]; omega) | (simp only [w32, w64]; omega) | (with_reducible refine (and32_le ?_ ?_).1 <;> omega) | (with_reducible refine (and32_le ?_ ?_).2 <;> omega) | (with_reducible refine (mulR ?_ ?_ ?_ ?_).1 <;> omega) | (with_reducible refine (mulR ?_ ?_ ?_ ?_).2 <;> omega) | (simp only [w32, w64] at *; omega) | (simp (disch := omega) only [w32_id, w64_id] at *; omega) | (simp (disch := omega) only [tdiv_nn, tmod_nn, w32_id, w64_id] at *; omega) | (subst_vars; simp [upZ] at *; omega) | (subst_vars; simp [upZ] at *; simp only [w32, w64] at *; omega))) | fail)
    | ((with_reducible show swT _ _ _ _); exact trivial)
    | rfl
    | ((fail_if_success (first | (with_reducible show _ ≤ _) | (with_reducible show _ = _) | (with_reducible show _ ∨ _) | (with_reducible show _ < _) | (with_reducible show G _ _ _ _) | (with_reducible show Exists _))); exact trivial)
    | skip
def s_X10_reckonSmallN : Sp := rRV 2 10 (fun as Z => match as with
    | [.inr (.inr a0), .inl a1] => ((a0 = 1)) ∧ (True) ∧ (NBS Z) ∧ (NBF Z) ∧ (NBB Z) ∧ (0 ≤ a1 ∧ a1 ≤ 12) ∧ (0 ≤ Z 18 3 ∧ Z 18 3 ≤ 2) ∧ True
    | _ => False) (fun as => match as with
    | [.inr (.inr a0), .inl a1] => [4, 5, 71, 77, 5070, 5076]
    | _ => []) (fun as Z Z' => match as with
    | [.inr (.inr a0), .inl a1] => (NBB Z') ∧ (a1 ≤ Z' 76 4 ∧ 0 ≤ Z' 76 4) ∧ (a1 ≤ Z' 70 4 ∧ 0 ≤ Z' 70 4) ∧ True
    | _ => False)
set_option maxRecDepth 100000 in
set_option maxHeartbeats 40000000 in
theorem c_X10_reckonSmallN {l : Launch} {D : va_G} {cA : Nat → ClassId} : PM l D cA yX10_reckonSmall cX10_reckonSmall 4 none 5 141 s_X10_reckonSmallN := by
  refine of_X10_reckonSmall (c_X3_shapeX) ⟨rfl, rfl⟩ (c_X0_reachN) ⟨rfl, rfl⟩ (c_X10_meanOfFour) ⟨rfl, rfl⟩ (c_X0_set) ⟨rfl, rfl⟩ (fun as σ hwf hao hpre => ?_)
  obtain ⟨n, Z, R⟩ := σ
  obtain ⟨hR, hI, hpre⟩ := hpre
  obtain rfl : R = R0 := hR
  (try replace hI : CI Z := hI)
  rcases as with _ | ⟨x | x | a0, _ | ⟨a1 | x | x, _ | ⟨v, t⟩⟩⟩ <;> first | exact (hpre : False).elim | skip
  obtain ⟨k1l, k1u⟩ : okI a1 := hao (vi a1) (by simp)
  obtain ⟨h0, h1, q0, q1, q2, q3, q4, -⟩ := hpre
  have hk : kp ([4, 5, 71, 77, 5070, 5076]) Z Z := kp_refl
  refine ⟨Nat.le_of_ble_eq_true rfl, fun G hG => ?_⟩
  clear hao hwf
  (try dsimp only at q0)
  (try dsimp only at q1)
  (try dsimp only at q2)
  (try dsimp only at q3)
  (try dsimp only at q4)
  obtain rfl := h0
  have loop : ∀ fuel : Nat, (∀ (Z1 : ZT) (v2 : Int), CI Z1 → kp ([4, 5, 71, 77, 5070, 5076]) Z Z1 → ((0 ≤ v2 ∧ v2 ≤ 36) ∧ (BM Z1 70 2 ∧ BM Z1 72 2 ∧ BM Z1 74 2) ∧ (NRW Z1 4 ∧ 1 ≤ Z1 4 2 ∧ Z1 4 2 ≤ 9) ∧ (NBS Z1 ∧ NBF Z1) ∧ (0 ≤ Z1 18 3 ∧ Z1 18 3 ≤ 2) ∧ True) → (37 - v2) * 20 + 19 ≤ (fuel : Int) → G 60 [(0, vr 1), (1, vi a1), (2, vi v2)] [] (n, Z1, R0)) ∧ (∀ (Z1 : ZT) (v2 : Int) (v3 : Int), CI Z1 → kp ([4, 5, 71, 77, 5070, 5076]) Z Z1 → ((0 ≤ v2 ∧ v2 ≤ 35) ∧ (0 ≤ v3 ∧ v3 ≤ 4) ∧ (BM Z1 70 2 ∧ BM Z1 72 2 ∧ BM Z1 74 2) ∧ (NRW Z1 4 ∧ 1 ≤ Z1 4 2 ∧ Z1 4 2 ≤ 9) ∧ (NBS Z1 ∧ NBF Z1) ∧ (0 ≤ Z1 18 3 ∧ Z1 18 3 ≤ 2) ∧ True) → (37 - v2) * 20 + 5 - v3 ≤ (fuel : Int) → G 73 [(0, vr 1), (1, vi a1), (2, vi v2), (3, vi v3)] [] (n, Z1, R0)) := by
    intro fuel
    induction fuel with
    | zero => exact ⟨(by intros; omega), (by intros; omega)⟩
    | succ fuel ih =>
      obtain ⟨ih60, ih73⟩ := ih
      refine ⟨?_, ?_⟩
      · intro Z1 v2 hI1 hk1 hv hm
        obtain ⟨w0, w1, w2, w3, w4, -⟩ := hv
        clear hk hI
        have hb70 := w1.1
        have hb72 := w1.2.1
        have hb74 := w1.2.2
        have hrw := w2.1
        have hs9 := w2.2
        have hns := w3.1
        have hnf := w3.2
        have h42 : Z1 4 2 = Z1 4 2 := rfl
        refine wq_run hG n R0 [60, 73] 900 _ _ _ _ ?_
        repeat' (first
            | with_reducible rfl
            | ((with_reducible show NBS _); first | exact hns | exact q0)
            | ((with_reducible show NBF _); first | exact hnf | exact q1)
            | ((with_reducible show FRR _); exact hns.1)
            | ((with_reducible show PLW _); exact hns.2.2.1)
            | ((with_reducible show ORD _ _); exact hns.2.2.2.2.1)
            | ((with_reducible show BM _ 70 2); exact hb70)
            | ((with_reducible show BM _ 72 2); exact hb72)
            | ((with_reducible show BM _ 74 2); first | exact hb74 | exact BM_n (by omega))
            | ((with_reducible show NBB _); exact NBB_i hb70 hb72 hb74 hb76)
            | ((with_reducible show BM _ 76 4); first | exact BM_76 (by omega) | exact hbs | exact (hb76 (by omega)).1)
            | refine And.intro ?_ ?_
            | with_reducible exact True.intro
            | ((with_reducible show _ = true); rfl)
            | ((with_reducible show recvG _ _); rfl)
            | ((with_reducible show CI _); first | with_reducible assumption | assumption)
            | (fail_if_success (first | (with_reducible show _ ≤ _) | (with_reducible show _ = _) | (with_reducible show _ ∨ _) | (with_reducible show _ < _) | (with_reducible show G _ _ _ _))
               first
               | show G _ _ _ _
               | (refine ld_bnd (by first | with_reducible assumption | assumption) rfl ?_; intro _ _ _ hld; (try dsimp only at hld); (try simp only [Nat.reduceAdd] at hld))
               | (refine st_k (by first | with_reducible assumption | assumption) (by first | with_reducible assumption | assumption) (by first | exact Or.inl (by decide) | exact Or.inr (by decide)) (fun lo hi hb => by first | (cases hb; done) | (cases hb; constructor <;> (first | omega | ((try dsimp only); (first | omega | (simp (disch := omega) only [w32_id, w64_id]; omega) | (simp only [w32, w64]; omega) | (with_reducible refine (and32_le ?_ ?_).1 <;> omega) | (with_reducible refine (and32_le ?_ ?_).2 <;> omega) | (with_reducible refine (mulR ?_ ?_ ?_ ?_).1 <;> omega) | (with_reducible refine (mulR ?_ ?_ ?_ ?_).2 <;> omega) | (simp only [w32, w64] at *; omega) | (simp (disch := omega) only [w32_id, w64_id] at *; omega) | (simp (disch := omega) only [tdiv_nn, tmod_nn, w32_id, w64_id] at *; omega) | (subst_vars; simp [upZ] at *; omega) | (subst_vars; simp [upZ] at *; simp only [w32, w64] at *; omega))) | fail))) ?_; intro Z' _ hkk; intro hld; (try dsimp only at hld); (try simp only [Nat.reduceAdd] at hld); intro hup; (try dsimp only at hup); (first | have := (congrFun (congrFun hup 76) 4).trans (up_ne (by decide)) | have := (congrFun (congrFun hup 76) 4).trans (up_nk (o := 76) (by decide)) | skip); (first | have := (congrFun (congrFun hup 70) 4).trans (up_ne (by decide)) | have := (congrFun (congrFun hup 70) 4).trans (up_nk (o := 70) (by decide)) | skip); (try have hb70 := BMk 70 2 (kp_one hup) (by rfl) hb70); (try have hb72 := BMk 72 2 (kp_one hup) (by rfl) hb72); (try have hb74 := BMk 74 2 (kp_one hup) (by rfl) hb74); (try have hb76 := B76k (kp_one hup) (by rfl) hb76); (try have hns := NBS_kp (kp_one hup) (by rfl) hns); (try have hnf := NBF_k (kp_one hup) (by rfl) hnf); (try have hbs := BMk 76 4 (kp_one hup) (by rfl) hbs); (try have hrw := NRW_o (up_o hup (by decide)) ((congrFun (up_o hup (by decide)) 2)) hrw); (try have h42 := (congrFun (up_o hup (by decide)) 2).trans h42))
               | (refine st_k (by first | with_reducible assumption | assumption) (by first | with_reducible assumption | assumption) (by first | exact Or.inl (by decide) | exact Or.inr (by decide)) (fun lo hi hb => ?_) ?_; (cases hb; refine And.intro ?_ ?_))
               | refine st_same ?_
               | (intro (r : Option PV) σ' hq
                  first
                  | (obtain ⟨rfl, x, rfl, hp⟩ := hq; (try replace hp : _ ∧ _ := hp); (try dsimp only at hp); (first | (have hsh : NR _ _ _ _ _ _ := hp.2.2.2.1; have hsz : Z' 4 2 = _ := hp.2.2.1; have hrw : NRW _ 4 := NR_w (o := 4) hsh hsz (by (simp (disch := omega) only [tdiv_nn, w32_id]); omega) (by (simp (disch := omega) only [tdiv_nn, w32_id]); omega); have h42 := hsz; have hs9 : 1 ≤ Z' 4 2 ∧ Z' 4 2 ≤ 9 := by (rw [hsz]; exact NR_9 hsh rfl (by (simp (disch := omega) only [tdiv_nn, w32_id]); omega) (by (simp (disch := omega) only [tdiv_nn, w32_id]); omega))) | (have hb70 : BM _ 70 2 := hp.2.1; have hd70 := hp.1) | (have hb72 : BM _ 72 2 := hp.2.1; have hd72 := hp.1) | (have hb74 : BM _ 74 2 := hp.2.1; have hd74 := hp.1) | (have hbs : BM _ 76 4 := hp.2.1; have hd76 := hp.1) | skip))
                  | (obtain ⟨Z', (o : Nat), rfl, rfl, hI2, hk2, ⟨⟨hp, rfl⟩ | ⟨hp, rfl⟩, -⟩⟩ := hq <;> ((first | have hk3 := kp_to (by first | with_reducible assumption | assumption) (by rfl) hk2 | have hk3 := ks_to (by first | with_reducible assumption | assumption) (by rfl) hk2); (try have hk2 := kp_of hk2); (first | have hrwq := hrw | (have hrw := (hb76 (by omega)).2.1; have hs9 := (hb76 (by omega)).2.2; have h42 : Z 4 2 = Z 4 2 := rfl) | skip); (try have hb70 := BMk 70 2 hk2 (by rfl) hb70); (try have hb72 := BMk 72 2 hk2 (by rfl) hb72); (try have hb74 := BMk 74 2 hk2 (by rfl) hb74); (try have hb76 := B76k hk2 (by rfl) hb76); (try have hns := NBS_kp hk2 (by rfl) hns); (try have hnf := NBF_k hk2 (by rfl) hnf); (try have hbs := BMk 76 4 hk2 (by rfl) hbs); (try have hrw := NRW_o (kp_av (o := 5) hk2 (by rfl) (by decide)) (kpF 4 2 hk2 (by rfl)) hrw); (try have h42 := (kpF 4 2 hk2 (by rfl)).trans h42); (first | have := kpF 76 4 hk2 (by rfl) | have := ksF 76 4 hk2 (by rfl) | skip); (try dsimp only at this); (first | have := kpF 70 4 hk2 (by rfl) | have := ksF 70 4 hk2 (by rfl) | skip); (try dsimp only at this); (first | have := kpF 18 3 hk2 (by rfl) | have := ksF 18 3 hk2 (by rfl) | skip); (try dsimp only at this); (first | have := kpF 2 0 hk2 (by rfl) | have := ksF 2 0 hk2 (by rfl) | skip); (try dsimp only at this); (first | have := kpF 2 1 hk2 (by rfl) | have := ksF 2 1 hk2 (by rfl) | skip); (try dsimp only at this); clear hk2))
                  | (obtain ⟨Z', x, rfl, rfl, hI2, hk2, hp⟩ := hq; (try replace hp : _ ∧ _ := hp); (try dsimp only at hp); (first | have hk3 := kp_to (by first | with_reducible assumption | assumption) (by rfl) hk2 | have hk3 := ks_to (by first | with_reducible assumption | assumption) (by rfl) hk2); (try have hk2 := kp_of hk2); (first | have hrwq := hrw | (have hrw := (hb76 (by omega)).2.1; have hs9 := (hb76 (by omega)).2.2; have h42 : Z 4 2 = Z 4 2 := rfl) | skip); (try have hb70 := BMk 70 2 hk2 (by rfl) hb70); (try have hb72 := BMk 72 2 hk2 (by rfl) hb72); (try have hb74 := BMk 74 2 hk2 (by rfl) hb74); (try have hb76 := B76k hk2 (by rfl) hb76); (try have hns := NBS_kp hk2 (by rfl) hns); (try have hnf := NBF_k hk2 (by rfl) hnf); (try have hbs := BMk 76 4 hk2 (by rfl) hbs); (try have hrw := NRW_o (kp_av (o := 5) hk2 (by rfl) (by decide)) (kpF 4 2 hk2 (by rfl)) hrw); (try have h42 := (kpF 4 2 hk2 (by rfl)).trans h42); (first | have := kpF 76 4 hk2 (by rfl) | have := ksF 76 4 hk2 (by rfl) | skip); (try dsimp only at this); (first | have := kpF 70 4 hk2 (by rfl) | have := ksF 70 4 hk2 (by rfl) | skip); (try dsimp only at this); (first | have := kpF 18 3 hk2 (by rfl) | have := ksF 18 3 hk2 (by rfl) | skip); (try dsimp only at this); (first | have := kpF 2 0 hk2 (by rfl) | have := ksF 2 0 hk2 (by rfl) | skip); (try dsimp only at this); (first | have := kpF 2 1 hk2 (by rfl) | have := ksF 2 1 hk2 (by rfl) | skip); (try dsimp only at this); clear hk2; (first | (have hsh : NR _ _ _ _ _ _ := hp.2.2.2.1; have hsz : Z' 4 2 = _ := hp.2.2.1; have hrw : NRW _ 4 := NR_w (o := 4) hsh hsz (by (simp (disch := omega) only [tdiv_nn, w32_id]); omega) (by (simp (disch := omega) only [tdiv_nn, w32_id]); omega); have h42 := hsz; have hs9 : 1 ≤ Z' 4 2 ∧ Z' 4 2 ≤ 9 := by (rw [hsz]; exact NR_9 hsh rfl (by (simp (disch := omega) only [tdiv_nn, w32_id]); omega) (by (simp (disch := omega) only [tdiv_nn, w32_id]); omega))) | (have hb70 : BM _ 70 2 := hp.2.1; have hd70 := hp.1) | (have hb72 : BM _ 72 2 := hp.2.1; have hd72 := hp.1) | (have hb74 : BM _ 74 2 := hp.2.1; have hd74 := hp.1) | (have hbs : BM _ 76 4 := hp.2.1; have hd76 := hp.1) | skip))
                  | (obtain ⟨Z', rfl, rfl, hI2, hk2, hp⟩ := hq; (try replace hp : _ ∧ _ := hp); (try dsimp only at hp); (first | have hk3 := kp_to (by first | with_reducible assumption | assumption) (by rfl) hk2 | have hk3 := ks_to (by first | with_reducible assumption | assumption) (by rfl) hk2); (try have hk2 := kp_of hk2); (first | have hrwq := hrw | (have hrw := (hb76 (by omega)).2.1; have hs9 := (hb76 (by omega)).2.2; have h42 : Z 4 2 = Z 4 2 := rfl) | skip); (try have hb70 := BMk 70 2 hk2 (by rfl) hb70); (try have hb72 := BMk 72 2 hk2 (by rfl) hb72); (try have hb74 := BMk 74 2 hk2 (by rfl) hb74); (try have hb76 := B76k hk2 (by rfl) hb76); (try have hns := NBS_kp hk2 (by rfl) hns); (try have hnf := NBF_k hk2 (by rfl) hnf); (try have hbs := BMk 76 4 hk2 (by rfl) hbs); (try have hrw := NRW_o (kp_av (o := 5) hk2 (by rfl) (by decide)) (kpF 4 2 hk2 (by rfl)) hrw); (try have h42 := (kpF 4 2 hk2 (by rfl)).trans h42); (first | have := kpF 76 4 hk2 (by rfl) | have := ksF 76 4 hk2 (by rfl) | skip); (try dsimp only at this); (first | have := kpF 70 4 hk2 (by rfl) | have := ksF 70 4 hk2 (by rfl) | skip); (try dsimp only at this); (first | have := kpF 18 3 hk2 (by rfl) | have := ksF 18 3 hk2 (by rfl) | skip); (try dsimp only at this); (first | have := kpF 2 0 hk2 (by rfl) | have := ksF 2 0 hk2 (by rfl) | skip); (try dsimp only at this); (first | have := kpF 2 1 hk2 (by rfl) | have := ksF 2 1 hk2 (by rfl) | skip); (try dsimp only at this); clear hk2; (first | (have hsh : NR _ _ _ _ _ _ := hp.2.2.2.1; have hsz : Z' 4 2 = _ := hp.2.2.1; have hrw : NRW _ 4 := NR_w (o := 4) hsh hsz (by (simp (disch := omega) only [tdiv_nn, w32_id]); omega) (by (simp (disch := omega) only [tdiv_nn, w32_id]); omega); have h42 := hsz; have hs9 : 1 ≤ Z' 4 2 ∧ Z' 4 2 ≤ 9 := by (rw [hsz]; exact NR_9 hsh rfl (by (simp (disch := omega) only [tdiv_nn, w32_id]); omega) (by (simp (disch := omega) only [tdiv_nn, w32_id]); omega))) | (have hb70 : BM _ 70 2 := hp.2.1; have hd70 := hp.1) | (have hb72 : BM _ 72 2 := hp.2.1; have hd72 := hp.1) | (have hb74 : BM _ 74 2 := hp.2.1; have hd74 := hp.1) | (have hbs : BM _ 76 4 := hp.2.1; have hd76 := hp.1) | skip))
                  | (obtain ⟨rfl, rfl⟩ := hq)
                  | (obtain ⟨Z', x, rfl, rfl, hI2, hk2⟩ := hq; have hkn := keeps_nil hk2; clear hk2; subst hkn)
                  | (obtain ⟨Z', x, rfl, rfl, hI2, hk2⟩ := hq; (first | have hk3 := kp_to (by first | with_reducible assumption | assumption) (by rfl) hk2 | have hk3 := ks_to (by first | with_reducible assumption | assumption) (by rfl) hk2); (try have hk2 := kp_of hk2); (first | have hrwq := hrw | (have hrw := (hb76 (by omega)).2.1; have hs9 := (hb76 (by omega)).2.2; have h42 : Z 4 2 = Z 4 2 := rfl) | skip); (try have hb70 := BMk 70 2 hk2 (by rfl) hb70); (try have hb72 := BMk 72 2 hk2 (by rfl) hb72); (try have hb74 := BMk 74 2 hk2 (by rfl) hb74); (try have hb76 := B76k hk2 (by rfl) hb76); (try have hns := NBS_kp hk2 (by rfl) hns); (try have hnf := NBF_k hk2 (by rfl) hnf); (try have hbs := BMk 76 4 hk2 (by rfl) hbs); (try have hrw := NRW_o (kp_av (o := 5) hk2 (by rfl) (by decide)) (kpF 4 2 hk2 (by rfl)) hrw); (try have h42 := (kpF 4 2 hk2 (by rfl)).trans h42); (first | have := kpF 76 4 hk2 (by rfl) | have := ksF 76 4 hk2 (by rfl) | skip); (try dsimp only at this); (first | have := kpF 70 4 hk2 (by rfl) | have := ksF 70 4 hk2 (by rfl) | skip); (try dsimp only at this); (first | have := kpF 18 3 hk2 (by rfl) | have := ksF 18 3 hk2 (by rfl) | skip); (try dsimp only at this); (first | have := kpF 2 0 hk2 (by rfl) | have := ksF 2 0 hk2 (by rfl) | skip); (try dsimp only at this); (first | have := kpF 2 1 hk2 (by rfl) | have := ksF 2 1 hk2 (by rfl) | skip); (try dsimp only at this); clear hk2)
                  | (rcases hq with ⟨Z', rfl, rfl, hI2, hk2⟩ | ⟨Z', rfl, rfl, hI2, hk2⟩ <;> ((first | have hk3 := kp_to (by first | with_reducible assumption | assumption) (by rfl) hk2 | have hk3 := ks_to (by first | with_reducible assumption | assumption) (by rfl) hk2); (try have hk2 := kp_of hk2); (first | have hrwq := hrw | (have hrw := (hb76 (by omega)).2.1; have hs9 := (hb76 (by omega)).2.2; have h42 : Z 4 2 = Z 4 2 := rfl) | skip); (try have hb70 := BMk 70 2 hk2 (by rfl) hb70); (try have hb72 := BMk 72 2 hk2 (by rfl) hb72); (try have hb74 := BMk 74 2 hk2 (by rfl) hb74); (try have hb76 := B76k hk2 (by rfl) hb76); (try have hns := NBS_kp hk2 (by rfl) hns); (try have hnf := NBF_k hk2 (by rfl) hnf); (try have hbs := BMk 76 4 hk2 (by rfl) hbs); (try have hrw := NRW_o (kp_av (o := 5) hk2 (by rfl) (by decide)) (kpF 4 2 hk2 (by rfl)) hrw); (try have h42 := (kpF 4 2 hk2 (by rfl)).trans h42); (first | have := kpF 76 4 hk2 (by rfl) | have := ksF 76 4 hk2 (by rfl) | skip); (try dsimp only at this); (first | have := kpF 70 4 hk2 (by rfl) | have := ksF 70 4 hk2 (by rfl) | skip); (try dsimp only at this); (first | have := kpF 18 3 hk2 (by rfl) | have := ksF 18 3 hk2 (by rfl) | skip); (try dsimp only at this); (first | have := kpF 2 0 hk2 (by rfl) | have := ksF 2 0 hk2 (by rfl) | skip); (try dsimp only at this); (first | have := kpF 2 1 hk2 (by rfl) | have := ksF 2 1 hk2 (by rfl) | skip); (try dsimp only at this); clear hk2))
                  | (obtain ⟨Z', rfl, rfl, hI2, hk2⟩ := hq; (first | have hk3 := kp_to (by first | with_reducible assumption | assumption) (by rfl) hk2 | have hk3 := ks_to (by first | with_reducible assumption | assumption) (by rfl) hk2); (try have hk2 := kp_of hk2); (first | have hrwq := hrw | (have hrw := (hb76 (by omega)).2.1; have hs9 := (hb76 (by omega)).2.2; have h42 : Z 4 2 = Z 4 2 := rfl) | skip); (try have hb70 := BMk 70 2 hk2 (by rfl) hb70); (try have hb72 := BMk 72 2 hk2 (by rfl) hb72); (try have hb74 := BMk 74 2 hk2 (by rfl) hb74); (try have hb76 := B76k hk2 (by rfl) hb76); (try have hns := NBS_kp hk2 (by rfl) hns); (try have hnf := NBF_k hk2 (by rfl) hnf); (try have hbs := BMk 76 4 hk2 (by rfl) hbs); (try have hrw := NRW_o (kp_av (o := 5) hk2 (by rfl) (by decide)) (kpF 4 2 hk2 (by rfl)) hrw); (try have h42 := (kpF 4 2 hk2 (by rfl)).trans h42); (first | have := kpF 76 4 hk2 (by rfl) | have := ksF 76 4 hk2 (by rfl) | skip); (try dsimp only at this); (first | have := kpF 70 4 hk2 (by rfl) | have := ksF 70 4 hk2 (by rfl) | skip); (try dsimp only at this); (first | have := kpF 18 3 hk2 (by rfl) | have := ksF 18 3 hk2 (by rfl) | skip); (try dsimp only at this); (first | have := kpF 2 0 hk2 (by rfl) | have := ksF 2 0 hk2 (by rfl) | skip); (try dsimp only at this); (first | have := kpF 2 1 hk2 (by rfl) | have := ksF 2 1 hk2 (by rfl) | skip); (try dsimp only at this); clear hk2))
               | (intro hc; (try simp only [cmp3_c] at hc); simp only [cmpI] at hc)
               | (show CI _; assumption)
               | intro (_ : Int)
               | intro (Z' : ZT)
               | intro (_ : CI _)
               | (intro (hkk : kp _ _ _))
               | intro (_ : _ ≤ _)
               | (intro (hup : _ = upZ _ _ _ _); (try dsimp only at hup); (first | have := (congrFun (congrFun hup 76) 4).trans (up_ne (by decide)) | have := (congrFun (congrFun hup 76) 4).trans (up_nk (o := 76) (by decide)) | skip); (first | have := (congrFun (congrFun hup 70) 4).trans (up_ne (by decide)) | have := (congrFun (congrFun hup 70) 4).trans (up_nk (o := 70) (by decide)) | skip); (try have hb70 := BMk 70 2 (kp_one hup) (by rfl) hb70); (try have hb72 := BMk 72 2 (kp_one hup) (by rfl) hb72); (try have hb74 := BMk 74 2 (kp_one hup) (by rfl) hb74); (try have hb76 := B76k (kp_one hup) (by rfl) hb76); (try have hns := NBS_kp (kp_one hup) (by rfl) hns); (try have hnf := NBF_k (kp_one hup) (by rfl) hnf); (try have hbs := BMk 76 4 (kp_one hup) (by rfl) hbs); (try have hrw := NRW_o (up_o hup (by decide)) ((congrFun (up_o hup (by decide)) 2)) hrw); (try have h42 := (congrFun (up_o hup (by decide)) 2).trans h42))
               | (intro (hld : _ = _); (try dsimp only at hld); (try simp only [Nat.reduceAdd] at hld))
               | intro (_ : _ < _)
               | intro (_ : _ ≠ _)
               | intro (_ : _ ∨ _)))
        all_goals first
          | ((with_reducible show G 60 _ _ _); refine hG.2 60 _ [(0, vr 1), (1, vi a1), (2, vi _)] _ _ rfl ?_)
          | ((with_reducible show G 73 _ _ _); refine hG.2 73 _ [(0, vr 1), (1, vi a1), (2, vi _), (3, vi _)] _ _ rfl ?_)
          | ((fail_if_success (first | (with_reducible show _ ≤ _) | (with_reducible show _ = _) | (with_reducible show _ ∨ _) | (with_reducible show _ < _))); first | refine hG.2 60 _ [(0, vr 1), (1, vi a1), (2, vi _)] _ _ rfl ?_ | refine hG.2 73 _ [(0, vr 1), (1, vi a1), (2, vi _), (3, vi _)] _ _ rfl ?_)
          | skip
        all_goals first
          | with_reducible rfl
          | ((with_reducible show _ = _); rfl)
          | ((with_reducible show recvG _ _); rfl)
          | ((with_reducible show G 60 _ _ _); refine ih60 _ _ ?_ ?_ ?_ ?_; assumption; assumption; (refine ⟨?_, ?_, ?_, ?_, ?_, trivial⟩; (first | done | focus (first | (dsimp only; done) | ((try dsimp only); (first | omega | (refine ⟨?_, ?_⟩ <;> (first | omega | ((try dsimp only); (first | omega | (simp (disch := omega) only [w32_id, w64_id]; omega) | (simp only [w32, w64]; omega) | (with_reducible refine (and32_le ?_ ?_).1 <;> omega) | (with_reducible refine (and32_le ?_ ?_).2 <;> omega) | (with_reducible refine (mulR ?_ ?_ ?_ ?_).1 <;> omega) | (with_reducible refine (mulR ?_ ?_ ?_ ?_).2 <;> omega) | (simp only [w32, w64] at *; omega) | (simp (disch := omega) only [w32_id, w64_id] at *; omega) | (simp (disch := omega) only [tdiv_nn, tmod_nn, w32_id, w64_id] at *; omega) | (subst_vars; simp [upZ] at *; omega) | (subst_vars; simp [upZ] at *; simp only [w32, w64] at *; omega))) | fail)) | (first | omega | ((try dsimp only); (first | omega | (simp (disch := omega) only [w32_id, w64_id]; omega) | (simp only [w32, w64]; omega) | (with_reducible refine (and32_le ?_ ?_).1 <;> omega) | (with_reducible refine (and32_le ?_ ?_).2 <;> omega) | (with_reducible refine (mulR ?_ ?_ ?_ ?_).1 <;> omega) | (with_reducible refine (mulR ?_ ?_ ?_ ?_).2 <;> omega) | (simp only [w32, w64] at *; omega) | (simp (disch := omega) only [w32_id, w64_id] at *; omega) | (simp (disch := omega) only [tdiv_nn, tmod_nn, w32_id, w64_id] at *; omega) | (subst_vars; simp [upZ] at *; omega) | (subst_vars; simp [upZ] at *; simp only [w32, w64] at *; omega))) | fail) | fail)))); (first | done | focus (first | (dsimp only; done) | ((try dsimp only); ((exact ⟨hb70, hb72, hb74⟩))))); (first | done | focus (first | (dsimp only; done) | ((try dsimp only); ((first | (refine ⟨hrw, ?_, ?_⟩ <;> omega) | (have hm3 := mul3 (show 1 ≤ Int.tdiv (Z 2 0) 2 ∧ _ from (by (simp (disch := omega) only [tdiv_nn, w32_id]); omega)) (show 1 ≤ Int.tdiv (Z 2 1) 2 ∧ _ from (by (simp (disch := omega) only [tdiv_nn, w32_id]); omega)); skip) | fail))))); (first | done | focus (first | (dsimp only; done) | ((try dsimp only); ((exact ⟨hns, hnf⟩))))); (first | done | focus (first | (dsimp only; done) | ((try dsimp only); (first | with_reducible assumption | first | omega | (refine ⟨?_, ?_⟩ <;> (first | omega | ((try dsimp only); (first | omega | (simp (disch := omega) only [w32_id, w64_id]; omega) | (simp only [w32, w64]; omega) | (with_reducible refine (and32_le ?_ ?_).1 <;> omega) | (with_reducible refine (and32_le ?_ ?_).2 <;> omega) | (with_reducible refine (mulR ?_ ?_ ?_ ?_).1 <;> omega) | (with_reducible refine (mulR ?_ ?_ ?_ ?_).2 <;> omega) | (simp only [w32, w64] at *; omega) | (simp (disch := omega) only [w32_id, w64_id] at *; omega) | (simp (disch := omega) only [tdiv_nn, tmod_nn, w32_id, w64_id] at *; omega) | (subst_vars; simp [upZ] at *; omega) | (subst_vars; simp [upZ] at *; simp only [w32, w64] at *; omega))) | fail)) | (first | omega | ((try dsimp only); (first | omega | (simp (disch := omega) only [w32_id, w64_id]; omega) | (simp only [w32, w64]; omega) | (with_reducible refine (and32_le ?_ ?_).1 <;> omega) | (with_reducible refine (and32_le ?_ ?_).2 <;> omega) | (with_reducible refine (mulR ?_ ?_ ?_ ?_).1 <;> omega) | (with_reducible refine (mulR ?_ ?_ ?_ ?_).2 <;> omega) | (simp only [w32, w64] at *; omega) | (simp (disch := omega) only [w32_id, w64_id] at *; omega) | (simp (disch := omega) only [tdiv_nn, tmod_nn, w32_id, w64_id] at *; omega) | (subst_vars; simp [upZ] at *; omega) | (subst_vars; simp [upZ] at *; simp only [w32, w64] at *; omega))) | fail) | fail))))); (first | omega | ((try dsimp only); (first | omega | (simp (disch := omega) only [w32_id, w64_id]; omega) | (simp only [w32, w64]; omega) | (with_reducible refine (and32_le ?_ ?_).1 <;> omega) | (with_reducible refine (and32_le ?_ ?_).2 <;> omega) | (with_reducible refine (mulR ?_ ?_ ?_ ?_).1 <;> omega) | (with_reducible refine (mulR ?_ ?_ ?_ ?_).2 <;> omega) | (simp only [w32, w64] at *; omega) | (simp (disch := omega) only [w32_id, w64_id] at *; omega) | (simp (disch := omega) only [tdiv_nn, tmod_nn, w32_id, w64_id] at *; omega) | (subst_vars; simp [upZ] at *; omega) | (subst_vars; simp [upZ] at *; simp only [w32, w64] at *; omega))) | fail))
          | ((with_reducible show G 73 _ _ _); refine ih73 _ _ _ ?_ ?_ ?_ ?_; assumption; assumption; (refine ⟨?_, ?_, ?_, ?_, ?_, ?_, trivial⟩; (first | done | focus (first | (dsimp only; done) | ((try dsimp only); (first | omega | (refine ⟨?_, ?_⟩ <;> (first | omega | ((try dsimp only); (first | omega | (simp (disch := omega) only [w32_id, w64_id]; omega) | (simp only [w32, w64]; omega) | (with_reducible refine (and32_le ?_ ?_).1 <;> omega) | (with_reducible refine (and32_le ?_ ?_).2 <;> omega) | (with_reducible refine (mulR ?_ ?_ ?_ ?_).1 <;> omega) | (with_reducible refine (mulR ?_ ?_ ?_ ?_).2 <;> omega) | (simp only [w32, w64] at *; omega) | (simp (disch := omega) only [w32_id, w64_id] at *; omega) | (simp (disch := omega) only [tdiv_nn, tmod_nn, w32_id, w64_id] at *; omega) | (subst_vars; simp [upZ] at *; omega) | (subst_vars; simp [upZ] at *; simp only [w32, w64] at *; omega))) | fail)) | (first | omega | ((try dsimp only); (first | omega | (simp (disch := omega) only [w32_id, w64_id]; omega) | (simp only [w32, w64]; omega) | (with_reducible refine (and32_le ?_ ?_).1 <;> omega) | (with_reducible refine (and32_le ?_ ?_).2 <;> omega) | (with_reducible refine (mulR ?_ ?_ ?_ ?_).1 <;> omega) | (with_reducible refine (mulR ?_ ?_ ?_ ?_).2 <;> omega) | (simp only [w32, w64] at *; omega) | (simp (disch := omega) only [w32_id, w64_id] at *; omega) | (simp (disch := omega) only [tdiv_nn, tmod_nn, w32_id, w64_id] at *; omega) | (subst_vars; simp [upZ] at *; omega) | (subst_vars; simp [upZ] at *; simp only [w32, w64] at *; omega))) | fail) | fail)))); (first | done | focus (first | (dsimp only; done) | ((try dsimp only); (first | omega | (refine ⟨?_, ?_⟩ <;> (first | omega | ((try dsimp only); (first | omega | (simp (disch := omega) only [w32_id, w64_id]; omega) | (simp only [w32, w64]; omega) | (with_reducible refine (and32_le ?_ ?_).1 <;> omega) | (with_reducible refine (and32_le ?_ ?_).2 <;> omega) | (with_reducible refine (mulR ?_ ?_ ?_ ?_).1 <;> omega) | (with_reducible refine (mulR ?_ ?_ ?_ ?_).2 <;> omega) | (simp only [w32, w64] at *; omega) | (simp (disch := omega) only [w32_id, w64_id] at *; omega) | (simp (disch := omega) only [tdiv_nn, tmod_nn, w32_id, w64_id] at *; omega) | (subst_vars; simp [upZ] at *; omega) | (subst_vars; simp [upZ] at *; simp only [w32, w64] at *; omega))) | fail)) | (first | omega | ((try dsimp only); (first | omega | (simp (disch := omega) only [w32_id, w64_id]; omega) | (simp only [w32, w64]; omega) | (with_reducible refine (and32_le ?_ ?_).1 <;> omega) | (with_reducible refine (and32_le ?_ ?_).2 <;> omega) | (with_reducible refine (mulR ?_ ?_ ?_ ?_).1 <;> omega) | (with_reducible refine (mulR ?_ ?_ ?_ ?_).2 <;> omega) | (simp only [w32, w64] at *; omega) | (simp (disch := omega) only [w32_id, w64_id] at *; omega) | (simp (disch := omega) only [tdiv_nn, tmod_nn, w32_id, w64_id] at *; omega) | (subst_vars; simp [upZ] at *; omega) | (subst_vars; simp [upZ] at *; simp only [w32, w64] at *; omega))) | fail) | fail)))); (first | done | focus (first | (dsimp only; done) | ((try dsimp only); ((exact ⟨hb70, hb72, hb74⟩))))); (first | done | focus (first | (dsimp only; done) | ((try dsimp only); ((first | (refine ⟨hrw, ?_, ?_⟩ <;> omega) | (have hm3 := mul3 (show 1 ≤ Int.tdiv (Z 2 0) 2 ∧ _ from (by (simp (disch := omega) only [tdiv_nn, w32_id]); omega)) (show 1 ≤ Int.tdiv (Z 2 1) 2 ∧ _ from (by (simp (disch := omega) only [tdiv_nn, w32_id]); omega)); skip) | fail))))); (first | done | focus (first | (dsimp only; done) | ((try dsimp only); ((exact ⟨hns, hnf⟩))))); (first | done | focus (first | (dsimp only; done) | ((try dsimp only); (first | with_reducible assumption | first | omega | (refine ⟨?_, ?_⟩ <;> (first | omega | ((try dsimp only); (first | omega | (simp (disch := omega) only [w32_id, w64_id]; omega) | (simp only [w32, w64]; omega) | (with_reducible refine (and32_le ?_ ?_).1 <;> omega) | (with_reducible refine (and32_le ?_ ?_).2 <;> omega) | (with_reducible refine (mulR ?_ ?_ ?_ ?_).1 <;> omega) | (with_reducible refine (mulR ?_ ?_ ?_ ?_).2 <;> omega) | (simp only [w32, w64] at *; omega) | (simp (disch := omega) only [w32_id, w64_id] at *; omega) | (simp (disch := omega) only [tdiv_nn, tmod_nn, w32_id, w64_id] at *; omega) | (subst_vars; simp [upZ] at *; omega) | (subst_vars; simp [upZ] at *; simp only [w32, w64] at *; omega))) | fail)) | (first | omega | ((try dsimp only); (first | omega | (simp (disch := omega) only [w32_id, w64_id]; omega) | (simp only [w32, w64]; omega) | (with_reducible refine (and32_le ?_ ?_).1 <;> omega) | (with_reducible refine (and32_le ?_ ?_).2 <;> omega) | (with_reducible refine (mulR ?_ ?_ ?_ ?_).1 <;> omega) | (with_reducible refine (mulR ?_ ?_ ?_ ?_).2 <;> omega) | (simp only [w32, w64] at *; omega) | (simp (disch := omega) only [w32_id, w64_id] at *; omega) | (simp (disch := omega) only [tdiv_nn, tmod_nn, w32_id, w64_id] at *; omega) | (subst_vars; simp [upZ] at *; omega) | (subst_vars; simp [upZ] at *; simp only [w32, w64] at *; omega))) | fail) | fail))))); (first | omega | ((try dsimp only); (first | omega | (simp (disch := omega) only [w32_id, w64_id]; omega) | (simp only [w32, w64]; omega) | (with_reducible refine (and32_le ?_ ?_).1 <;> omega) | (with_reducible refine (and32_le ?_ ?_).2 <;> omega) | (with_reducible refine (mulR ?_ ?_ ?_ ?_).1 <;> omega) | (with_reducible refine (mulR ?_ ?_ ?_ ?_).2 <;> omega) | (simp only [w32, w64] at *; omega) | (simp (disch := omega) only [w32_id, w64_id] at *; omega) | (simp (disch := omega) only [tdiv_nn, tmod_nn, w32_id, w64_id] at *; omega) | (subst_vars; simp [upZ] at *; omega) | (subst_vars; simp [upZ] at *; simp only [w32, w64] at *; omega))) | fail))
          | with_reducible exact trivial
          | with_reducible assumption
          | ((with_reducible show NRW _ 4); first | exact hrw | exact (hb76 (by omega)).2.1)
          | ((with_reducible show _ ≤ _); (show _ ≤ (9 : Int)); first | exact hs9.2 | exact Int.le_trans (Int.le_of_eq h42) hs9.2 | exact (hb76 (by omega)).2.2.2)
          | ((with_reducible show (0 : Int) ≤ _); simp only [Nat.reduceAdd]; omega)
          | ((with_reducible show NRW _ 2); exact hns.2.1)
          | ((with_reducible show NWC _); exact hns.2.2.2.1)
          | ((with_reducible show _ = _); first | exact hnf.1.1 | exact hnf.1.2.1 | exact hnf.1.2.2.1 | exact hnf.1.2.2.2)
          | ((with_reducible show _ ≤ _); (show _ ≤ (36 : Int)); have hgc := (by assumption : CI _) 2 2 4 36 rfl; exact hgc.2)
          | ((with_reducible show _ ≤ _); (try dsimp only); have hsr := hns.2.2.2.2.2; omega)
          | ((fail_if_success (first | (with_reducible show _ ≤ _) | (with_reducible show _ = _) | (with_reducible show _ ∨ _) | (with_reducible show _ < _) | (with_reducible show G _ _ _ _))); (refine Exists.intro _ (And.intro rfl (And.intro rfl ?_)); refine ⟨by assumption, by assumption, ?_⟩; (refine ⟨?_, ?_, ?_, trivial⟩; (first | done | focus (first | (dsimp only; done) | ((try dsimp only); ((refine NBB_i hb70 hb72 hb74 (fun _ => ⟨hbs, ?_⟩); first | exact ⟨hrw, by omega, by omega⟩ | exact (hb76 (by omega)).2 | fail))))); (first | done | focus (first | (dsimp only; done) | ((try dsimp only); ((first | omega | exact hd76 | (have h1 := hd76.1; have h2 := hd76.2; simp only [Nat.reduceAdd] at h1 h2; exact ⟨by omega, by omega⟩) | fail))))); (first | done | focus (first | (dsimp only; done) | ((try dsimp only); ((first | exact hd70 | omega | fail))))))))
          | ((fail_if_success (first | (with_reducible show _ ≤ _) | (with_reducible show _ = _) | (with_reducible show _ ∨ _) | (with_reducible show _ < _) | (with_reducible show G _ _ _ _))); (refine Exists.intro _ (And.intro rfl (And.intro rfl ?_)); refine ⟨by assumption, by assumption, ?_⟩; simp only [Nat.reduceAdd] at *; (refine ⟨?_, ?_, ?_, trivial⟩; (first | done | focus (first | (dsimp only; done) | ((try dsimp only); ((refine NBB_i hb70 hb72 hb74 (fun _ => ⟨hbs, ?_⟩); first | exact ⟨hrw, by omega, by omega⟩ | exact (hb76 (by omega)).2 | fail))))); (first | done | focus (first | (dsimp only; done) | ((try dsimp only); ((first | omega | exact hd76 | (have h1 := hd76.1; have h2 := hd76.2; simp only [Nat.reduceAdd] at h1 h2; exact ⟨by omega, by omega⟩) | fail))))); (first | done | focus (first | (dsimp only; done) | ((try dsimp only); ((first | exact hd70 | omega | fail))))))))
          | omega
          | (dsimp only; omega)
          | decide
          | (show (0 : Int) < _; omega)
          | (show (0 : Int) < _; simp only [w64] at *; omega)
          | (simp only [w32, w64] at *; omega)
          | (first | omega | ((try dsimp only); (first | omega | (simp (disch := omega) only [w32_id, w64_id]; omega) | (simp only [w32, w64]; omega) | (with_reducible refine (and32_le ?_ ?_).1 <;> omega) | (with_reducible refine (and32_le ?_ ?_).2 <;> omega) | (with_reducible refine (mulR ?_ ?_ ?_ ?_).1 <;> omega) | (with_reducible refine (mulR ?_ ?_ ?_ ?_).2 <;> omega) | (simp only [w32, w64] at *; omega) | (simp (disch := omega) only [w32_id, w64_id] at *; omega) | (simp (disch := omega) only [tdiv_nn, tmod_nn, w32_id, w64_id] at *; omega) | (subst_vars; simp [upZ] at *; omega) | (subst_vars; simp [upZ] at *; simp only [w32, w64] at *; omega))) | fail)
          | ((with_reducible show swT _ _ _ _); exact trivial)
          | rfl
          | ((fail_if_success (first | (with_reducible show _ ≤ _) | (with_reducible show _ = _) | (with_reducible show _ ∨ _) | (with_reducible show _ < _) | (with_reducible show G _ _ _ _) | (with_reducible show Exists _))); exact trivial)
          | skip
      · intro Z1 v2 v3 hI1 hk1 hv hm
        obtain ⟨w0, w1, w2, w3, w4, w5, -⟩ := hv
        clear hk hI
        have hb70 := w2.1
        have hb72 := w2.2.1
        have hb74 := w2.2.2
        have hrw := w3.1
        have hs9 := w3.2
        have hns := w4.1
        have hnf := w4.2
        have h42 : Z1 4 2 = Z1 4 2 := rfl
        refine wq_run hG n R0 [60, 73] 900 _ _ _ _ ?_
        repeat' (first
            | with_reducible rfl
            | ((with_reducible show NBS _); first | exact hns | exact q0)
            | ((with_reducible show NBF _); first | exact hnf | exact q1)
            | ((with_reducible show FRR _); exact hns.1)
            | ((with_reducible show PLW _); exact hns.2.2.1)
            | ((with_reducible show ORD _ _); exact hns.2.2.2.2.1)
            | ((with_reducible show BM _ 70 2); exact hb70)
            | ((with_reducible show BM _ 72 2); exact hb72)
            | ((with_reducible show BM _ 74 2); first | exact hb74 | exact BM_n (by omega))
            | ((with_reducible show NBB _); exact NBB_i hb70 hb72 hb74 hb76)
            | ((with_reducible show BM _ 76 4); first | exact BM_76 (by omega) | exact hbs | exact (hb76 (by omega)).1)
            | refine And.intro ?_ ?_
            | with_reducible exact True.intro
            | ((with_reducible show _ = true); rfl)
            | ((with_reducible show recvG _ _); rfl)
            | ((with_reducible show CI _); first | with_reducible assumption | assumption)
            | (fail_if_success (first | (with_reducible show _ ≤ _) | (with_reducible show _ = _) | (with_reducible show _ ∨ _) | (with_reducible show _ < _) | (with_reducible show G _ _ _ _))
               first
               | show G _ _ _ _
               | (refine ld_bnd (by first | with_reducible assumption | assumption) rfl ?_; intro _ _ _ hld; (try dsimp only at hld); (try simp only [Nat.reduceAdd] at hld))
               | (refine st_k (by first | with_reducible assumption | assumption) (by first | with_reducible assumption | assumption) (by first | exact Or.inl (by decide) | exact Or.inr (by decide)) (fun lo hi hb => by first | (cases hb; done) | (cases hb; constructor <;> (first | omega | ((try dsimp only); (first | omega | (simp (disch := omega) only [w32_id, w64_id]; omega) | (simp only [w32, w64]; omega) | (with_reducible refine (and32_le ?_ ?_).1 <;> omega) | (with_reducible refine (and32_le ?_ ?_).2 <;> omega) | (with_reducible refine (mulR ?_ ?_ ?_ ?_).1 <;> omega) | (with_reducible refine (mulR ?_ ?_ ?_ ?_).2 <;> omega) | (simp only [w32, w64] at *; omega) | (simp (disch := omega) only [w32_id, w64_id] at *; omega) | (simp (disch := omega) only [tdiv_nn, tmod_nn, w32_id, w64_id] at *; omega) | (subst_vars; simp [upZ] at *; omega) | (subst_vars; simp [upZ] at *; simp only [w32, w64] at *; omega))) | fail))) ?_; intro Z' _ hkk; intro hld; (try dsimp only at hld); (try simp only [Nat.reduceAdd] at hld); intro hup; (try dsimp only at hup); (first | have := (congrFun (congrFun hup 76) 4).trans (up_ne (by decide)) | have := (congrFun (congrFun hup 76) 4).trans (up_nk (o := 76) (by decide)) | skip); (first | have := (congrFun (congrFun hup 70) 4).trans (up_ne (by decide)) | have := (congrFun (congrFun hup 70) 4).trans (up_nk (o := 70) (by decide)) | skip); (try have hb70 := BMk 70 2 (kp_one hup) (by rfl) hb70); (try have hb72 := BMk 72 2 (kp_one hup) (by rfl) hb72); (try have hb74 := BMk 74 2 (kp_one hup) (by rfl) hb74); (try have hb76 := B76k (kp_one hup) (by rfl) hb76); (try have hns := NBS_kp (kp_one hup) (by rfl) hns); (try have hnf := NBF_k (kp_one hup) (by rfl) hnf); (try have hbs := BMk 76 4 (kp_one hup) (by rfl) hbs); (try have hrw := NRW_o (up_o hup (by decide)) ((congrFun (up_o hup (by decide)) 2)) hrw); (try have h42 := (congrFun (up_o hup (by decide)) 2).trans h42))
               | (refine st_k (by first | with_reducible assumption | assumption) (by first | with_reducible assumption | assumption) (by first | exact Or.inl (by decide) | exact Or.inr (by decide)) (fun lo hi hb => ?_) ?_; (cases hb; refine And.intro ?_ ?_))
               | refine st_same ?_
               | (intro (r : Option PV) σ' hq
                  first
                  | (obtain ⟨rfl, x, rfl, hp⟩ := hq; (try replace hp : _ ∧ _ := hp); (try dsimp only at hp); (first | (have hsh : NR _ _ _ _ _ _ := hp.2.2.2.1; have hsz : Z' 4 2 = _ := hp.2.2.1; have hrw : NRW _ 4 := NR_w (o := 4) hsh hsz (by (simp (disch := omega) only [tdiv_nn, w32_id]); omega) (by (simp (disch := omega) only [tdiv_nn, w32_id]); omega); have h42 := hsz; have hs9 : 1 ≤ Z' 4 2 ∧ Z' 4 2 ≤ 9 := by (rw [hsz]; exact NR_9 hsh rfl (by (simp (disch := omega) only [tdiv_nn, w32_id]); omega) (by (simp (disch := omega) only [tdiv_nn, w32_id]); omega))) | (have hb70 : BM _ 70 2 := hp.2.1; have hd70 := hp.1) | (have hb72 : BM _ 72 2 := hp.2.1; have hd72 := hp.1) | (have hb74 : BM _ 74 2 := hp.2.1; have hd74 := hp.1) | (have hbs : BM _ 76 4 := hp.2.1; have hd76 := hp.1) | skip))
                  | (obtain ⟨Z', (o : Nat), rfl, rfl, hI2, hk2, ⟨⟨hp, rfl⟩ | ⟨hp, rfl⟩, -⟩⟩ := hq <;> ((first | have hk3 := kp_to (by first | with_reducible assumption | assumption) (by rfl) hk2 | have hk3 := ks_to (by first | with_reducible assumption | assumption) (by rfl) hk2); (try have hk2 := kp_of hk2); (first | have hrwq := hrw | (have hrw := (hb76 (by omega)).2.1; have hs9 := (hb76 (by omega)).2.2; have h42 : Z 4 2 = Z 4 2 := rfl) | skip); (try have hb70 := BMk 70 2 hk2 (by rfl) hb70); (try have hb72 := BMk 72 2 hk2 (by rfl) hb72); (try have hb74 := BMk 74 2 hk2 (by rfl) hb74); (try have hb76 := B76k hk2 (by rfl) hb76); (try have hns := NBS_kp hk2 (by rfl) hns); (try have hnf := NBF_k hk2 (by rfl) hnf); (try have hbs := BMk 76 4 hk2 (by rfl) hbs); (try have hrw := NRW_o (kp_av (o := 5) hk2 (by rfl) (by decide)) (kpF 4 2 hk2 (by rfl)) hrw); (try have h42 := (kpF 4 2 hk2 (by rfl)).trans h42); (first | have := kpF 76 4 hk2 (by rfl) | have := ksF 76 4 hk2 (by rfl) | skip); (try dsimp only at this); (first | have := kpF 70 4 hk2 (by rfl) | have := ksF 70 4 hk2 (by rfl) | skip); (try dsimp only at this); (first | have := kpF 18 3 hk2 (by rfl) | have := ksF 18 3 hk2 (by rfl) | skip); (try dsimp only at this); (first | have := kpF 2 0 hk2 (by rfl) | have := ksF 2 0 hk2 (by rfl) | skip); (try dsimp only at this); (first | have := kpF 2 1 hk2 (by rfl) | have := ksF 2 1 hk2 (by rfl) | skip); (try dsimp only at this); clear hk2))
                  | (obtain ⟨Z', x, rfl, rfl, hI2, hk2, hp⟩ := hq; (try replace hp : _ ∧ _ := hp); (try dsimp only at hp); (first | have hk3 := kp_to (by first | with_reducible assumption | assumption) (by rfl) hk2 | have hk3 := ks_to (by first | with_reducible assumption | assumption) (by rfl) hk2); (try have hk2 := kp_of hk2); (first | have hrwq := hrw | (have hrw := (hb76 (by omega)).2.1; have hs9 := (hb76 (by omega)).2.2; have h42 : Z 4 2 = Z 4 2 := rfl) | skip); (try have hb70 := BMk 70 2 hk2 (by rfl) hb70); (try have hb72 := BMk 72 2 hk2 (by rfl) hb72); (try have hb74 := BMk 74 2 hk2 (by rfl) hb74); (try have hb76 := B76k hk2 (by rfl) hb76); (try have hns := NBS_kp hk2 (by rfl) hns); (try have hnf := NBF_k hk2 (by rfl) hnf); (try have hbs := BMk 76 4 hk2 (by rfl) hbs); (try have hrw := NRW_o (kp_av (o := 5) hk2 (by rfl) (by decide)) (kpF 4 2 hk2 (by rfl)) hrw); (try have h42 := (kpF 4 2 hk2 (by rfl)).trans h42); (first | have := kpF 76 4 hk2 (by rfl) | have := ksF 76 4 hk2 (by rfl) | skip); (try dsimp only at this); (first | have := kpF 70 4 hk2 (by rfl) | have := ksF 70 4 hk2 (by rfl) | skip); (try dsimp only at this); (first | have := kpF 18 3 hk2 (by rfl) | have := ksF 18 3 hk2 (by rfl) | skip); (try dsimp only at this); (first | have := kpF 2 0 hk2 (by rfl) | have := ksF 2 0 hk2 (by rfl) | skip); (try dsimp only at this); (first | have := kpF 2 1 hk2 (by rfl) | have := ksF 2 1 hk2 (by rfl) | skip); (try dsimp only at this); clear hk2; (first | (have hsh : NR _ _ _ _ _ _ := hp.2.2.2.1; have hsz : Z' 4 2 = _ := hp.2.2.1; have hrw : NRW _ 4 := NR_w (o := 4) hsh hsz (by (simp (disch := omega) only [tdiv_nn, w32_id]); omega) (by (simp (disch := omega) only [tdiv_nn, w32_id]); omega); have h42 := hsz; have hs9 : 1 ≤ Z' 4 2 ∧ Z' 4 2 ≤ 9 := by (rw [hsz]; exact NR_9 hsh rfl (by (simp (disch := omega) only [tdiv_nn, w32_id]); omega) (by (simp (disch := omega) only [tdiv_nn, w32_id]); omega))) | (have hb70 : BM _ 70 2 := hp.2.1; have hd70 := hp.1) | (have hb72 : BM _ 72 2 := hp.2.1; have hd72 := hp.1) | (have hb74 : BM _ 74 2 := hp.2.1; have hd74 := hp.1) | (have hbs : BM _ 76 4 := hp.2.1; have hd76 := hp.1) | skip))
                  | (obtain ⟨Z', rfl, rfl, hI2, hk2, hp⟩ := hq; (try replace hp : _ ∧ _ := hp); (try dsimp only at hp); (first | have hk3 := kp_to (by first | with_reducible assumption | assumption) (by rfl) hk2 | have hk3 := ks_to (by first | with_reducible assumption | assumption) (by rfl) hk2); (try have hk2 := kp_of hk2); (first | have hrwq := hrw | (have hrw := (hb76 (by omega)).2.1; have hs9 := (hb76 (by omega)).2.2; have h42 : Z 4 2 = Z 4 2 := rfl) | skip); (try have hb70 := BMk 70 2 hk2 (by rfl) hb70); (try have hb72 := BMk 72 2 hk2 (by rfl) hb72); (try have hb74 := BMk 74 2 hk2 (by rfl) hb74); (try have hb76 := B76k hk2 (by rfl) hb76); (try have hns := NBS_kp hk2 (by rfl) hns); (try have hnf := NBF_k hk2 (by rfl) hnf); (try have hbs := BMk 76 4 hk2 (by rfl) hbs); (try have hrw := NRW_o (kp_av (o := 5) hk2 (by rfl) (by decide)) (kpF 4 2 hk2 (by rfl)) hrw); (try have h42 := (kpF 4 2 hk2 (by rfl)).trans h42); (first | have := kpF 76 4 hk2 (by rfl) | have := ksF 76 4 hk2 (by rfl) | skip); (try dsimp only at this); (first | have := kpF 70 4 hk2 (by rfl) | have := ksF 70 4 hk2 (by rfl) | skip); (try dsimp only at this); (first | have := kpF 18 3 hk2 (by rfl) | have := ksF 18 3 hk2 (by rfl) | skip); (try dsimp only at this); (first | have := kpF 2 0 hk2 (by rfl) | have := ksF 2 0 hk2 (by rfl) | skip); (try dsimp only at this); (first | have := kpF 2 1 hk2 (by rfl) | have := ksF 2 1 hk2 (by rfl) | skip); (try dsimp only at this); clear hk2; (first | (have hsh : NR _ _ _ _ _ _ := hp.2.2.2.1; have hsz : Z' 4 2 = _ := hp.2.2.1; have hrw : NRW _ 4 := NR_w (o := 4) hsh hsz (by (simp (disch := omega) only [tdiv_nn, w32_id]); omega) (by (simp (disch := omega) only [tdiv_nn, w32_id]); omega); have h42 := hsz; have hs9 : 1 ≤ Z' 4 2 ∧ Z' 4 2 ≤ 9 := by (rw [hsz]; exact NR_9 hsh rfl (by (simp (disch := omega) only [tdiv_nn, w32_id]); omega) (by (simp (disch := omega) only [tdiv_nn, w32_id]); omega))) | (have hb70 : BM _ 70 2 := hp.2.1; have hd70 := hp.1) | (have hb72 : BM _ 72 2 := hp.2.1; have hd72 := hp.1) | (have hb74 : BM _ 74 2 := hp.2.1; have hd74 := hp.1) | (have hbs : BM _ 76 4 := hp.2.1; have hd76 := hp.1) | skip))
                  | (obtain ⟨rfl, rfl⟩ := hq)
                  | (obtain ⟨Z', x, rfl, rfl, hI2, hk2⟩ := hq; have hkn := keeps_nil hk2; clear hk2; subst hkn)
                  | (obtain ⟨Z', x, rfl, rfl, hI2, hk2⟩ := hq; (first | have hk3 := kp_to (by first | with_reducible assumption | assumption) (by rfl) hk2 | have hk3 := ks_to (by first | with_reducible assumption | assumption) (by rfl) hk2); (try have hk2 := kp_of hk2); (first | have hrwq := hrw | (have hrw := (hb76 (by omega)).2.1; have hs9 := (hb76 (by omega)).2.2; have h42 : Z 4 2 = Z 4 2 := rfl) | skip); (try have hb70 := BMk 70 2 hk2 (by rfl) hb70); (try have hb72 := BMk 72 2 hk2 (by rfl) hb72); (try have hb74 := BMk 74 2 hk2 (by rfl) hb74); (try have hb76 := B76k hk2 (by rfl) hb76); (try have hns := NBS_kp hk2 (by rfl) hns); (try have hnf := NBF_k hk2 (by rfl) hnf); (try have hbs := BMk 76 4 hk2 (by rfl) hbs); (try have hrw := NRW_o (kp_av (o := 5) hk2 (by rfl) (by decide)) (kpF 4 2 hk2 (by rfl)) hrw); (try have h42 := (kpF 4 2 hk2 (by rfl)).trans h42); (first | have := kpF 76 4 hk2 (by rfl) | have := ksF 76 4 hk2 (by rfl) | skip); (try dsimp only at this); (first | have := kpF 70 4 hk2 (by rfl) | have := ksF 70 4 hk2 (by rfl) | skip); (try dsimp only at this); (first | have := kpF 18 3 hk2 (by rfl) | have := ksF 18 3 hk2 (by rfl) | skip); (try dsimp only at this); (first | have := kpF 2 0 hk2 (by rfl) | have := ksF 2 0 hk2 (by rfl) | skip); (try dsimp only at this); (first | have := kpF 2 1 hk2 (by rfl) | have := ksF 2 1 hk2 (by rfl) | skip); (try dsimp only at this); clear hk2)
                  | (rcases hq with ⟨Z', rfl, rfl, hI2, hk2⟩ | ⟨Z', rfl, rfl, hI2, hk2⟩ <;> ((first | have hk3 := kp_to (by first | with_reducible assumption | assumption) (by rfl) hk2 | have hk3 := ks_to (by first | with_reducible assumption | assumption) (by rfl) hk2); (try have hk2 := kp_of hk2); (first | have hrwq := hrw | (have hrw := (hb76 (by omega)).2.1; have hs9 := (hb76 (by omega)).2.2; have h42 : Z 4 2 = Z 4 2 := rfl) | skip); (try have hb70 := BMk 70 2 hk2 (by rfl) hb70); (try have hb72 := BMk 72 2 hk2 (by rfl) hb72); (try have hb74 := BMk 74 2 hk2 (by rfl) hb74); (try have hb76 := B76k hk2 (by rfl) hb76); (try have hns := NBS_kp hk2 (by rfl) hns); (try have hnf := NBF_k hk2 (by rfl) hnf); (try have hbs := BMk 76 4 hk2 (by rfl) hbs); (try have hrw := NRW_o (kp_av (o := 5) hk2 (by rfl) (by decide)) (kpF 4 2 hk2 (by rfl)) hrw); (try have h42 := (kpF 4 2 hk2 (by rfl)).trans h42); (first | have := kpF 76 4 hk2 (by rfl) | have := ksF 76 4 hk2 (by rfl) | skip); (try dsimp only at this); (first | have := kpF 70 4 hk2 (by rfl) | have := ksF 70 4 hk2 (by rfl) | skip); (try dsimp only at this); (first | have := kpF 18 3 hk2 (by rfl) | have := ksF 18 3 hk2 (by rfl) | skip); (try dsimp only at this); (first | have := kpF 2 0 hk2 (by rfl) | have := ksF 2 0 hk2 (by rfl) | skip); (try dsimp only at this); (first | have := kpF 2 1 hk2 (by rfl) | have := ksF 2 1 hk2 (by rfl) | skip); (try dsimp only at this); clear hk2))
                  | (obtain ⟨Z', rfl, rfl, hI2, hk2⟩ := hq; (first | have hk3 := kp_to (by first | with_reducible assumption | assumption) (by rfl) hk2 | have hk3 := ks_to (by first | with_reducible assumption | assumption) (by rfl) hk2); (try have hk2 := kp_of hk2); (first | have hrwq := hrw | (have hrw := (hb76 (by omega)).2.1; have hs9 := (hb76 (by omega)).2.2; have h42 : Z 4 2 = Z 4 2 := rfl) | skip); (try have hb70 := BMk 70 2 hk2 (by rfl) hb70); (try have hb72 := BMk 72 2 hk2 (by rfl) hb72); (try have hb74 := BMk 74 2 hk2 (by rfl) hb74); (try have hb76 := B76k hk2 (by rfl) hb76); (try have hns := NBS_kp hk2 (by rfl) hns); (try have hnf := NBF_k hk2 (by rfl) hnf); (try have hbs := BMk 76 4 hk2 (by rfl) hbs); (try have hrw := NRW_o (kp_av (o := 5) hk2 (by rfl) (by decide)) (kpF 4 2 hk2 (by rfl)) hrw); (try have h42 := (kpF 4 2 hk2 (by rfl)).trans h42); (first | have := kpF 76 4 hk2 (by rfl) | have := ksF 76 4 hk2 (by rfl) | skip); (try dsimp only at this); (first | have := kpF 70 4 hk2 (by rfl) | have := ksF 70 4 hk2 (by rfl) | skip); (try dsimp only at this); (first | have := kpF 18 3 hk2 (by rfl) | have := ksF 18 3 hk2 (by rfl) | skip); (try dsimp only at this); (first | have := kpF 2 0 hk2 (by rfl) | have := ksF 2 0 hk2 (by rfl) | skip); (try dsimp only at this); (first | have := kpF 2 1 hk2 (by rfl) | have := ksF 2 1 hk2 (by rfl) | skip); (try dsimp only at this); clear hk2))
               | (intro hc; (try simp only [cmp3_c] at hc); simp only [cmpI] at hc)
               | (show CI _; assumption)
               | intro (_ : Int)
               | intro (Z' : ZT)
               | intro (_ : CI _)
               | (intro (hkk : kp _ _ _))
               | intro (_ : _ ≤ _)
               | (intro (hup : _ = upZ _ _ _ _); (try dsimp only at hup); (first | have := (congrFun (congrFun hup 76) 4).trans (up_ne (by decide)) | have := (congrFun (congrFun hup 76) 4).trans (up_nk (o := 76) (by decide)) | skip); (first | have := (congrFun (congrFun hup 70) 4).trans (up_ne (by decide)) | have := (congrFun (congrFun hup 70) 4).trans (up_nk (o := 70) (by decide)) | skip); (try have hb70 := BMk 70 2 (kp_one hup) (by rfl) hb70); (try have hb72 := BMk 72 2 (kp_one hup) (by rfl) hb72); (try have hb74 := BMk 74 2 (kp_one hup) (by rfl) hb74); (try have hb76 := B76k (kp_one hup) (by rfl) hb76); (try have hns := NBS_kp (kp_one hup) (by rfl) hns); (try have hnf := NBF_k (kp_one hup) (by rfl) hnf); (try have hbs := BMk 76 4 (kp_one hup) (by rfl) hbs); (try have hrw := NRW_o (up_o hup (by decide)) ((congrFun (up_o hup (by decide)) 2)) hrw); (try have h42 := (congrFun (up_o hup (by decide)) 2).trans h42))
               | (intro (hld : _ = _); (try dsimp only at hld); (try simp only [Nat.reduceAdd] at hld))
               | intro (_ : _ < _)
               | intro (_ : _ ≠ _)
               | intro (_ : _ ∨ _)))
        all_goals first
          | ((with_reducible show G 60 _ _ _); refine hG.2 60 _ [(0, vr 1), (1, vi a1), (2, vi _)] _ _ rfl ?_)
          | ((with_reducible show G 73 _ _ _); refine hG.2 73 _ [(0, vr 1), (1, vi a1), (2, vi _), (3, vi _)] _ _ rfl ?_)
          | ((fail_if_success (first | (with_reducible show _ ≤ _) | (with_reducible show _ = _) | (with_reducible show _ ∨ _) | (with_reducible show _ < _))); first | refine hG.2 60 _ [(0, vr 1), (1, vi a1), (2, vi _)] _ _ rfl ?_ | refine hG.2 73 _ [(0, vr 1), (1, vi a1), (2, vi _), (3, vi _)] _ _ rfl ?_)
          | skip
        all_goals first
          | with_reducible rfl
          | ((with_reducible show _ = _); rfl)
          | ((with_reducible show recvG _ _); rfl)
          | ((with_reducible show G 60 _ _ _); refine ih60 _ _ ?_ ?_ ?_ ?_; assumption; assumption; (refine ⟨?_, ?_, ?_, ?_, ?_, trivial⟩; (first | done | focus (first | (dsimp only; done) | ((try dsimp only); (first | omega | (refine ⟨?_, ?_⟩ <;> (first | omega | ((try dsimp only); (first | omega | (simp (disch := omega) only [w32_id, w64_id]; omega) | (simp only [w32, w64]; omega) | (with_reducible refine (and32_le ?_ ?_).1 <;> omega) | (with_reducible refine (and32_le ?_ ?_).2 <;> omega) | (with_reducible refine (mulR ?_ ?_ ?_ ?_).1 <;> omega) | (with_reducible refine (mulR ?_ ?_ ?_ ?_).2 <;> omega) | (simp only [w32, w64] at *; omega) | (simp (disch := omega) only [w32_id, w64_id] at *; omega) | (simp (disch := omega) only [tdiv_nn, tmod_nn, w32_id, w64_id] at *; omega) | (subst_vars; simp [upZ] at *; omega) | (subst_vars; simp [upZ] at *; simp only [w32, w64] at *; omega))) | fail)) | (first | omega | ((try dsimp only); (first | omega | (simp (disch := omega) only [w32_id, w64_id]; omega) | (simp only [w32, w64]; omega) | (with_reducible refine (and32_le ?_ ?_).1 <;> omega) | (with_reducible refine (and32_le ?_ ?_).2 <;> omega) | (with_reducible refine (mulR ?_ ?_ ?_ ?_).1 <;> omega) | (with_reducible refine (mulR ?_ ?_ ?_ ?_).2 <;> omega) | (simp only [w32, w64] at *; omega) | (simp (disch := omega) only [w32_id, w64_id] at *; omega) | (simp (disch := omega) only [tdiv_nn, tmod_nn, w32_id, w64_id] at *; omega) | (subst_vars; simp [upZ] at *; omega) | (subst_vars; simp [upZ] at *; simp only [w32, w64] at *; omega))) | fail) | fail)))); (first | done | focus (first | (dsimp only; done) | ((try dsimp only); ((exact ⟨hb70, hb72, hb74⟩))))); (first | done | focus (first | (dsimp only; done) | ((try dsimp only); ((first | (refine ⟨hrw, ?_, ?_⟩ <;> omega) | (have hm3 := mul3 (show 1 ≤ Int.tdiv (Z 2 0) 2 ∧ _ from (by (simp (disch := omega) only [tdiv_nn, w32_id]); omega)) (show 1 ≤ Int.tdiv (Z 2 1) 2 ∧ _ from (by (simp (disch := omega) only [tdiv_nn, w32_id]); omega)); skip) | fail))))); (first | done | focus (first | (dsimp only; done) | ((try dsimp only); ((exact ⟨hns, hnf⟩))))); (first | done | focus (first | (dsimp only; done) | ((try dsimp only); (first | with_reducible assumption | first | omega | (refine ⟨?_, ?_⟩ <;> (first | omega | ((try dsimp only); (first | omega | (simp (disch := omega) only [w32_id, w64_id]; omega) | (simp only [w32, w64]; omega) | (with_reducible refine (and32_le ?_ ?_).1 <;> omega) | (with_reducible refine (and32_le ?_ ?_).2 <;> omega) | (with_reducible refine (mulR ?_ ?_ ?_ ?_).1 <;> omega) | (with_reducible refine (mulR ?_ ?_ ?_ ?_).2 <;> omega) | (simp only [w32, w64] at *; omega) | (simp (disch := omega) only [w32_id, w64_id] at *; omega) | (simp (disch := omega) only [tdiv_nn, tmod_nn, w32_id, w64_id] at *; omega) | (subst_vars; simp [upZ] at *; omega) | (subst_vars; simp [upZ] at *; simp only [w32, w64] at *; omega))) | fail)) | (first | omega | ((try dsimp only); (first | omega | (simp (disch := omega) only [w32_id, w64_id]; omega) | (simp only [w32, w64]; omega) | (with_reducible refine (and32_le ?_ ?_).1 <;> omega) | (with_reducible refine (and32_le ?_ ?_).2 <;> omega) | (with_reducible refine (mulR ?_ ?_ ?_ ?_).1 <;> omega) | (with_reducible refine (mulR ?_ ?_ ?_ ?_).2 <;> omega) | (simp only [w32, w64] at *; omega) | (simp (disch := omega) only [w32_id, w64_id] at *; omega) | (simp (disch := omega) only [tdiv_nn, tmod_nn, w32_id, w64_id] at *; omega) | (subst_vars; simp [upZ] at *; omega) | (subst_vars; simp [upZ] at *; simp only [w32, w64] at *; omega))) | fail) | fail))))); (first | omega | ((try dsimp only); (first | omega | (simp (disch := omega) only [w32_id, w64_id]; omega) | (simp only [w32, w64]; omega) | (with_reducible refine (and32_le ?_ ?_).1 <;> omega) | (with_reducible refine (and32_le ?_ ?_).2 <;> omega) | (with_reducible refine (mulR ?_ ?_ ?_ ?_).1 <;> omega) | (with_reducible refine (mulR ?_ ?_ ?_ ?_).2 <;> omega) | (simp only [w32, w64] at *; omega) | (simp (disch := omega) only [w32_id, w64_id] at *; omega) | (simp (disch := omega) only [tdiv_nn, tmod_nn, w32_id, w64_id] at *; omega) | (subst_vars; simp [upZ] at *; omega) | (subst_vars; simp [upZ] at *; simp only [w32, w64] at *; omega))) | fail))
          | ((with_reducible show G 73 _ _ _); refine ih73 _ _ _ ?_ ?_ ?_ ?_; assumption; assumption; (refine ⟨?_, ?_, ?_, ?_, ?_, ?_, trivial⟩; (first | done | focus (first | (dsimp only; done) | ((try dsimp only); (first | omega | (refine ⟨?_, ?_⟩ <;> (first | omega | ((try dsimp only); (first | omega | (simp (disch := omega) only [w32_id, w64_id]; omega) | (simp only [w32, w64]; omega) | (with_reducible refine (and32_le ?_ ?_).1 <;> omega) | (with_reducible refine (and32_le ?_ ?_).2 <;> omega) | (with_reducible refine (mulR ?_ ?_ ?_ ?_).1 <;> omega) | (with_reducible refine (mulR ?_ ?_ ?_ ?_).2 <;> omega) | (simp only [w32, w64] at *; omega) | (simp (disch := omega) only [w32_id, w64_id] at *; omega) | (simp (disch := omega) only [tdiv_nn, tmod_nn, w32_id, w64_id] at *; omega) | (subst_vars; simp [upZ] at *; omega) | (subst_vars; simp [upZ] at *; simp only [w32, w64] at *; omega))) | fail)) | (first | omega | ((try dsimp only); (first | omega | (simp (disch := omega) only [w32_id, w64_id]; omega) | (simp only [w32, w64]; omega) | (with_reducible refine (and32_le ?_ ?_).1 <;> omega) | (with_reducible refine (and32_le ?_ ?_).2 <;> omega) | (with_reducible refine (mulR ?_ ?_ ?_ ?_).1 <;> omega) | (with_reducible refine (mulR ?_ ?_ ?_ ?_).2 <;> omega) | (simp only [w32, w64] at *; omega) | (simp (disch := omega) only [w32_id, w64_id] at *; omega) | (simp (disch := omega) only [tdiv_nn, tmod_nn, w32_id, w64_id] at *; omega) | (subst_vars; simp [upZ] at *; omega) | (subst_vars; simp [upZ] at *; simp only [w32, w64] at *; omega))) | fail) | fail)))); (first | done | focus (first | (dsimp only; done) | ((try dsimp only); (first | omega | (refine ⟨?_, ?_⟩ <;> (first | omega | ((try dsimp only); (first | omega | (simp (disch := omega) only [w32_id, w64_id]; omega) | (simp only [w32, w64]; omega) | (with_reducible refine (and32_le ?_ ?_).1 <;> omega) | (with_reducible refine (and32_le ?_ ?_).2 <;> omega) | (with_reducible refine (mulR ?_ ?_ ?_ ?_).1 <;> omega) | (with_reducible refine (mulR ?_ ?_ ?_ ?_).2 <;> omega) | (simp only [w32, w64] at *; omega) | (simp (disch := omega) only [w32_id, w64_id] at *; omega) | (simp (disch := omega) only [tdiv_nn, tmod_nn, w32_id, w64_id] at *; omega) | (subst_vars; simp [upZ] at *; omega) | (subst_vars; simp [upZ] at *; simp only [w32, w64] at *; omega))) | fail)) | (first | omega | ((try dsimp only); (first | omega | (simp (disch := omega) only [w32_id, w64_id]; omega) | (simp only [w32, w64]; omega) | (with_reducible refine (and32_le ?_ ?_).1 <;> omega) | (with_reducible refine (and32_le ?_ ?_).2 <;> omega) | (with_reducible refine (mulR ?_ ?_ ?_ ?_).1 <;> omega) | (with_reducible refine (mulR ?_ ?_ ?_ ?_).2 <;> omega) | (simp only [w32, w64] at *; omega) | (simp (disch := omega) only [w32_id, w64_id] at *; omega) | (simp (disch := omega) only [tdiv_nn, tmod_nn, w32_id, w64_id] at *; omega) | (subst_vars; simp [upZ] at *; omega) | (subst_vars; simp [upZ] at *; simp only [w32, w64] at *; omega))) | fail) | fail)))); (first | done | focus (first | (dsimp only; done) | ((try dsimp only); ((exact ⟨hb70, hb72, hb74⟩))))); (first | done | focus (first | (dsimp only; done) | ((try dsimp only); ((first | (refine ⟨hrw, ?_, ?_⟩ <;> omega) | (have hm3 := mul3 (show 1 ≤ Int.tdiv (Z 2 0) 2 ∧ _ from (by (simp (disch := omega) only [tdiv_nn, w32_id]); omega)) (show 1 ≤ Int.tdiv (Z 2 1) 2 ∧ _ from (by (simp (disch := omega) only [tdiv_nn, w32_id]); omega)); skip) | fail))))); (first | done | focus (first | (dsimp only; done) | ((try dsimp only); ((exact ⟨hns, hnf⟩))))); (first | done | focus (first | (dsimp only; done) | ((try dsimp only); (first | with_reducible assumption | first | omega | (refine ⟨?_, ?_⟩ <;> (first | omega | ((try dsimp only); (first | omega | (simp (disch := omega) only [w32_id, w64_id]; omega) | (simp only [w32, w64]; omega) | (with_reducible refine (and32_le ?_ ?_).1 <;> omega) | (with_reducible refine (and32_le ?_ ?_).2 <;> omega) | (with_reducible refine (mulR ?_ ?_ ?_ ?_).1 <;> omega) | (with_reducible refine (mulR ?_ ?_ ?_ ?_).2 <;> omega) | (simp only [w32, w64] at *; omega) | (simp (disch := omega) only [w32_id, w64_id] at *; omega) | (simp (disch := omega) only [tdiv_nn, tmod_nn, w32_id, w64_id] at *; omega) | (subst_vars; simp [upZ] at *; omega) | (subst_vars; simp [upZ] at *; simp only [w32, w64] at *; omega))) | fail)) | (first | omega | ((try dsimp only); (first | omega | (simp (disch := omega) only [w32_id, w64_id]; omega) | (simp only [w32, w64]; omega) | (with_reducible refine (and32_le ?_ ?_).1 <;> omega) | (with_reducible refine (and32_le ?_ ?_).2 <;> omega) | (with_reducible refine (mulR ?_ ?_ ?_ ?_).1 <;> omega) | (with_reducible refine (mulR ?_ ?_ ?_ ?_).2 <;> omega) | (simp only [w32, w64] at *; omega) | (simp (disch := omega) only [w32_id, w64_id] at *; omega) | (simp (disch := omega) only [tdiv_nn, tmod_nn, w32_id, w64_id] at *; omega) | (subst_vars; simp [upZ] at *; omega) | (subst_vars; simp [upZ] at *; simp only [w32, w64] at *; omega))) | fail) | fail))))); (first | omega | ((try dsimp only); (first | omega | (simp (disch := omega) only [w32_id, w64_id]; omega) | (simp only [w32, w64]; omega) | (with_reducible refine (and32_le ?_ ?_).1 <;> omega) | (with_reducible refine (and32_le ?_ ?_).2 <;> omega) | (with_reducible refine (mulR ?_ ?_ ?_ ?_).1 <;> omega) | (with_reducible refine (mulR ?_ ?_ ?_ ?_).2 <;> omega) | (simp only [w32, w64] at *; omega) | (simp (disch := omega) only [w32_id, w64_id] at *; omega) | (simp (disch := omega) only [tdiv_nn, tmod_nn, w32_id, w64_id] at *; omega) | (subst_vars; simp [upZ] at *; omega) | (subst_vars; simp [upZ] at *; simp only [w32, w64] at *; omega))) | fail))
          | with_reducible exact trivial
          | with_reducible assumption
          | ((with_reducible show NRW _ 4); first | exact hrw | exact (hb76 (by omega)).2.1)
          | ((with_reducible show _ ≤ _); (show _ ≤ (9 : Int)); first | exact hs9.2 | exact Int.le_trans (Int.le_of_eq h42) hs9.2 | exact (hb76 (by omega)).2.2.2)
          | ((with_reducible show (0 : Int) ≤ _); simp only [Nat.reduceAdd]; omega)
          | ((with_reducible show NRW _ 2); exact hns.2.1)
          | ((with_reducible show NWC _); exact hns.2.2.2.1)
          | ((with_reducible show _ = _); first | exact hnf.1.1 | exact hnf.1.2.1 | exact hnf.1.2.2.1 | exact hnf.1.2.2.2)
          | ((with_reducible show _ ≤ _); (show _ ≤ (36 : Int)); have hgc := (by assumption : CI _) 2 2 4 36 rfl; exact hgc.2)
          | ((with_reducible show _ ≤ _); (try dsimp only); have hsr := hns.2.2.2.2.2; omega)
          | ((fail_if_success (first | (with_reducible show _ ≤ _) | (with_reducible show _ = _) | (with_reducible show _ ∨ _) | (with_reducible show _ < _) | (with_reducible show G _ _ _ _))); (refine Exists.intro _ (And.intro rfl (And.intro rfl ?_)); refine ⟨by assumption, by assumption, ?_⟩; (refine ⟨?_, ?_, ?_, trivial⟩; (first | done | focus (first | (dsimp only; done) | ((try dsimp only); ((refine NBB_i hb70 hb72 hb74 (fun _ => ⟨hbs, ?_⟩); first | exact ⟨hrw, by omega, by omega⟩ | exact (hb76 (by omega)).2 | fail))))); (first | done | focus (first | (dsimp only; done) | ((try dsimp only); ((first | omega | exact hd76 | (have h1 := hd76.1; have h2 := hd76.2; simp only [Nat.reduceAdd] at h1 h2; exact ⟨by omega, by omega⟩) | fail))))); (first | done | focus (first | (dsimp only; done) | ((try dsimp only); ((first | exact hd70 | omega | fail))))))))
          | ((fail_if_success (first | (with_reducible show _ ≤ _) | (with_reducible show _ = _) | (with_reducible show _ ∨ _) | (with_reducible show _ < _) | (with_reducible show G _ _ _ _))); (refine Exists.intro _ (And.intro rfl (And.intro rfl ?_)); refine ⟨by assumption, by assumption, ?_⟩; simp only [Nat.reduceAdd] at *; (refine ⟨?_, ?_, ?_, trivial⟩; (first | done | focus (first | (dsimp only; done) | ((try dsimp only); ((refine NBB_i hb70 hb72 hb74 (fun _ => ⟨hbs, ?_⟩); first | exact ⟨hrw, by omega, by omega⟩ | exact (hb76 (by omega)).2 | fail))))); (first | done | focus (first | (dsimp only; done) | ((try dsimp only); ((first | omega | exact hd76 | (have h1 := hd76.1; have h2 := hd76.2; simp only [Nat.reduceAdd] at h1 h2; exact ⟨by omega, by omega⟩) | fail))))); (first | done | focus (first | (dsimp only; done) | ((try dsimp only); ((first | exact hd70 | omega | fail))))))))
          | omega
          | (dsimp only; omega)
          | decide
          | (show (0 : Int) < _; omega)
          | (show (0 : Int) < _; simp only [w64] at *; omega)
          | (simp only [w32, w64] at *; omega)
          | (first | omega | ((try dsimp only); (first | omega | (simp (disch := omega) only [w32_id, w64_id]; omega) | (simp only [w32, w64]; omega) | (with_reducible refine (and32_le ?_ ?_).1 <;> omega) | (with_reducible refine (and32_le ?_ ?_).2 <;> omega) | (with_reducible refine (mulR ?_ ?_ ?_ ?_).1 <;> omega) | (with_reducible refine (mulR ?_ ?_ ?_ ?_).2 <;> omega) | (simp only [w32, w64] at *; omega) | (simp (disch := omega) only [w32_id, w64_id] at *; omega) | (simp (disch := omega) only [tdiv_nn, tmod_nn, w32_id, w64_id] at *; omega) | (subst_vars; simp [upZ] at *; omega) | (subst_vars; simp [upZ] at *; simp only [w32, w64] at *; omega))) | fail)
          | ((with_reducible show swT _ _ _ _); exact trivial)
          | rfl
          | ((fail_if_success (first | (with_reducible show _ ≤ _) | (with_reducible show _ = _) | (with_reducible show _ ∨ _) | (with_reducible show _ < _) | (with_reducible show G _ _ _ _) | (with_reducible show Exists _))); exact trivial)
          | skip
  have hb70 : BM Z 70 2 := q2.1
  have hb72 : BM Z 72 2 := q2.2.1
  have hb74 : BM Z 74 2 := q2.2.2.1
  have hb76 : B76 Z := q2.2.2.2
  have hns := q0
  have hnf := q1
  refine wq_run hG n R0 [60, 73] 900 _ _ _ _ ?_
  repeat' (first
      | with_reducible rfl
      | ((with_reducible show NBS _); first | exact hns | exact q0)
      | ((with_reducible show NBF _); first | exact hnf | exact q1)
      | ((with_reducible show FRR _); exact hns.1)
      | ((with_reducible show PLW _); exact hns.2.2.1)
      | ((with_reducible show ORD _ _); exact hns.2.2.2.2.1)
      | ((with_reducible show BM _ 70 2); exact hb70)
      | ((with_reducible show BM _ 72 2); exact hb72)
      | ((with_reducible show BM _ 74 2); first | exact hb74 | exact BM_n (by omega))
      | ((with_reducible show NBB _); exact NBB_i hb70 hb72 hb74 hb76)
      | ((with_reducible show BM _ 76 4); first | exact BM_76 (by omega) | exact hbs | exact (hb76 (by omega)).1)
      | refine And.intro ?_ ?_
      | with_reducible exact True.intro
      | ((with_reducible show _ = true); rfl)
      | ((with_reducible show recvG _ _); rfl)
      | ((with_reducible show CI _); first | with_reducible assumption | assumption)
      | (fail_if_success (first | (with_reducible show _ ≤ _) | (with_reducible show _ = _) | (with_reducible show _ ∨ _) | (with_reducible show _ < _) | (with_reducible show G _ _ _ _))
         first
         | show G _ _ _ _
         | (refine ld_bnd (by first | with_reducible assumption | assumption) rfl ?_; intro _ _ _ hld; (try dsimp only at hld); (try simp only [Nat.reduceAdd] at hld))
         | (refine st_k (by first | with_reducible assumption | assumption) (by first | with_reducible assumption | assumption) (by first | exact Or.inl (by decide) | exact Or.inr (by decide)) (fun lo hi hb => by first | (cases hb; done) | (cases hb; constructor <;> (first | omega | ((try dsimp only); (first | omega | (simp (disch := omega) only [w32_id, w64_id]; omega) | (simp only [w32, w64]; omega) | (with_reducible refine (and32_le ?_ ?_).1 <;> omega) | (with_reducible refine (and32_le ?_ ?_).2 <;> omega) | (with_reducible refine (mulR ?_ ?_ ?_ ?_).1 <;> omega) | (with_reducible refine (mulR ?_ ?_ ?_ ?_).2 <;> omega) | (simp only [w32, w64] at *; omega) | (simp (disch := omega) only [w32_id, w64_id] at *; omega) | (simp (disch := omega) only [tdiv_nn, tmod_nn, w32_id, w64_id] at *; omega) | (subst_vars; simp [upZ] at *; omega) | (subst_vars; simp [upZ] at *; simp only [w32, w64] at *; omega))) | fail))) ?_; intro Z' _ hkk; intro hld; (try dsimp only at hld); (try simp only [Nat.reduceAdd] at hld); intro hup; (try dsimp only at hup); (first | have := (congrFun (congrFun hup 76) 4).trans (up_ne (by decide)) | have := (congrFun (congrFun hup 76) 4).trans (up_nk (o := 76) (by decide)) | skip); (first | have := (congrFun (congrFun hup 70) 4).trans (up_ne (by decide)) | have := (congrFun (congrFun hup 70) 4).trans (up_nk (o := 70) (by decide)) | skip); (try have hb70 := BMk 70 2 (kp_one hup) (by rfl) hb70); (try have hb72 := BMk 72 2 (kp_one hup) (by rfl) hb72); (try have hb74 := BMk 74 2 (kp_one hup) (by rfl) hb74); (try have hb76 := B76k (kp_one hup) (by rfl) hb76); (try have hns := NBS_kp (kp_one hup) (by rfl) hns); (try have hnf := NBF_k (kp_one hup) (by rfl) hnf); (try have hbs := BMk 76 4 (kp_one hup) (by rfl) hbs); (try have hrw := NRW_o (up_o hup (by decide)) ((congrFun (up_o hup (by decide)) 2)) hrw); (try have h42 := (congrFun (up_o hup (by decide)) 2).trans h42))
         | (refine st_k (by first | with_reducible assumption | assumption) (by first | with_reducible assumption | assumption) (by first | exact Or.inl (by decide) | exact Or.inr (by decide)) (fun lo hi hb => ?_) ?_; (cases hb; refine And.intro ?_ ?_))
         | refine st_same ?_
         | (intro (r : Option PV) σ' hq
            first
            | (obtain ⟨rfl, x, rfl, hp⟩ := hq; (try replace hp : _ ∧ _ := hp); (try dsimp only at hp); (first | (have hsh : NR _ _ _ _ _ _ := hp.2.2.2.1; have hsz : Z' 4 2 = _ := hp.2.2.1; have hrw : NRW _ 4 := NR_w (o := 4) hsh hsz (by (simp (disch := omega) only [tdiv_nn, w32_id]); omega) (by (simp (disch := omega) only [tdiv_nn, w32_id]); omega); have h42 := hsz; have hs9 : 1 ≤ Z' 4 2 ∧ Z' 4 2 ≤ 9 := by (rw [hsz]; exact NR_9 hsh rfl (by (simp (disch := omega) only [tdiv_nn, w32_id]); omega) (by (simp (disch := omega) only [tdiv_nn, w32_id]); omega))) | (have hb70 : BM _ 70 2 := hp.2.1; have hd70 := hp.1) | (have hb72 : BM _ 72 2 := hp.2.1; have hd72 := hp.1) | (have hb74 : BM _ 74 2 := hp.2.1; have hd74 := hp.1) | (have hbs : BM _ 76 4 := hp.2.1; have hd76 := hp.1) | skip))
            | (obtain ⟨Z', (o : Nat), rfl, rfl, hI2, hk2, ⟨⟨hp, rfl⟩ | ⟨hp, rfl⟩, -⟩⟩ := hq <;> ((first | have hk3 := kp_to (by first | with_reducible assumption | assumption) (by rfl) hk2 | have hk3 := ks_to (by first | with_reducible assumption | assumption) (by rfl) hk2); (try have hk2 := kp_of hk2); (first | have hrwq := hrw | (have hrw := (hb76 (by omega)).2.1; have hs9 := (hb76 (by omega)).2.2; have h42 : Z 4 2 = Z 4 2 := rfl) | skip); (try have hb70 := BMk 70 2 hk2 (by rfl) hb70); (try have hb72 := BMk 72 2 hk2 (by rfl) hb72); (try have hb74 := BMk 74 2 hk2 (by rfl) hb74); (try have hb76 := B76k hk2 (by rfl) hb76); (try have hns := NBS_kp hk2 (by rfl) hns); (try have hnf := NBF_k hk2 (by rfl) hnf); (try have hbs := BMk 76 4 hk2 (by rfl) hbs); (try have hrw := NRW_o (kp_av (o := 5) hk2 (by rfl) (by decide)) (kpF 4 2 hk2 (by rfl)) hrw); (try have h42 := (kpF 4 2 hk2 (by rfl)).trans h42); (first | have := kpF 76 4 hk2 (by rfl) | have := ksF 76 4 hk2 (by rfl) | skip); (try dsimp only at this); (first | have := kpF 70 4 hk2 (by rfl) | have := ksF 70 4 hk2 (by rfl) | skip); (try dsimp only at this); (first | have := kpF 18 3 hk2 (by rfl) | have := ksF 18 3 hk2 (by rfl) | skip); (try dsimp only at this); (first | have := kpF 2 0 hk2 (by rfl) | have := ksF 2 0 hk2 (by rfl) | skip); (try dsimp only at this); (first | have := kpF 2 1 hk2 (by rfl) | have := ksF 2 1 hk2 (by rfl) | skip); (try dsimp only at this); clear hk2))
            | (obtain ⟨Z', x, rfl, rfl, hI2, hk2, hp⟩ := hq; (try replace hp : _ ∧ _ := hp); (try dsimp only at hp); (first | have hk3 := kp_to (by first | with_reducible assumption | assumption) (by rfl) hk2 | have hk3 := ks_to (by first | with_reducible assumption | assumption) (by rfl) hk2); (try have hk2 := kp_of hk2); (first | have hrwq := hrw | (have hrw := (hb76 (by omega)).2.1; have hs9 := (hb76 (by omega)).2.2; have h42 : Z 4 2 = Z 4 2 := rfl) | skip); (try have hb70 := BMk 70 2 hk2 (by rfl) hb70); (try have hb72 := BMk 72 2 hk2 (by rfl) hb72); (try have hb74 := BMk 74 2 hk2 (by rfl) hb74); (try have hb76 := B76k hk2 (by rfl) hb76); (try have hns := NBS_kp hk2 (by rfl) hns); (try have hnf := NBF_k hk2 (by rfl) hnf); (try have hbs := BMk 76 4 hk2 (by rfl) hbs); (try have hrw := NRW_o (kp_av (o := 5) hk2 (by rfl) (by decide)) (kpF 4 2 hk2 (by rfl)) hrw); (try have h42 := (kpF 4 2 hk2 (by rfl)).trans h42); (first | have := kpF 76 4 hk2 (by rfl) | have := ksF 76 4 hk2 (by rfl) | skip); (try dsimp only at this); (first | have := kpF 70 4 hk2 (by rfl) | have := ksF 70 4 hk2 (by rfl) | skip); (try dsimp only at this); (first | have := kpF 18 3 hk2 (by rfl) | have := ksF 18 3 hk2 (by rfl) | skip); (try dsimp only at this); (first | have := kpF 2 0 hk2 (by rfl) | have := ksF 2 0 hk2 (by rfl) | skip); (try dsimp only at this); (first | have := kpF 2 1 hk2 (by rfl) | have := ksF 2 1 hk2 (by rfl) | skip); (try dsimp only at this); clear hk2; (first | (have hsh : NR _ _ _ _ _ _ := hp.2.2.2.1; have hsz : Z' 4 2 = _ := hp.2.2.1; have hrw : NRW _ 4 := NR_w (o := 4) hsh hsz (by (simp (disch := omega) only [tdiv_nn, w32_id]); omega) (by (simp (disch := omega) only [tdiv_nn, w32_id]); omega); have h42 := hsz; have hs9 : 1 ≤ Z' 4 2 ∧ Z' 4 2 ≤ 9 := by (rw [hsz]; exact NR_9 hsh rfl (by (simp (disch := omega) only [tdiv_nn, w32_id]); omega) (by (simp (disch := omega) only [tdiv_nn, w32_id]); omega))) | (have hb70 : BM _ 70 2 := hp.2.1; have hd70 := hp.1) | (have hb72 : BM _ 72 2 := hp.2.1; have hd72 := hp.1) | (have hb74 : BM _ 74 2 := hp.2.1; have hd74 := hp.1) | (have hbs : BM _ 76 4 := hp.2.1; have hd76 := hp.1) | skip))
            | (obtain ⟨Z', rfl, rfl, hI2, hk2, hp⟩ := hq; (try replace hp : _ ∧ _ := hp); (try dsimp only at hp); (first | have hk3 := kp_to (by first | with_reducible assumption | assumption) (by rfl) hk2 | have hk3 := ks_to (by first | with_reducible assumption | assumption) (by rfl) hk2); (try have hk2 := kp_of hk2); (first | have hrwq := hrw | (have hrw := (hb76 (by omega)).2.1; have hs9 := (hb76 (by omega)).2.2; have h42 : Z 4 2 = Z 4 2 := rfl) | skip); (try have hb70 := BMk 70 2 hk2 (by rfl) hb70); (try have hb72 := BMk 72 2 hk2 (by rfl) hb72); (try have hb74 := BMk 74 2 hk2 (by rfl) hb74); (try have hb76 := B76k hk2 (by rfl) hb76); (try have hns := NBS_kp hk2 (by rfl) hns); (try have hnf := NBF_k hk2 (by rfl) hnf); (try have hbs := BMk 76 4 hk2 (by rfl) hbs); (try have hrw := NRW_o (kp_av (o := 5) hk2 (by rfl) (by decide)) (kpF 4 2 hk2 (by rfl)) hrw); (try have h42 := (kpF 4 2 hk2 (by rfl)).trans h42); (first | have := kpF 76 4 hk2 (by rfl) | have := ksF 76 4 hk2 (by rfl) | skip); (try dsimp only at this); (first | have := kpF 70 4 hk2 (by rfl) | have := ksF 70 4 hk2 (by rfl) | skip); (try dsimp only at this); (first | have := kpF 18 3 hk2 (by rfl) | have := ksF 18 3 hk2 (by rfl) | skip); (try dsimp only at this); (first | have := kpF 2 0 hk2 (by rfl) | have := ksF 2 0 hk2 (by rfl) | skip); (try dsimp only at this); (first | have := kpF 2 1 hk2 (by rfl) | have := ksF 2 1 hk2 (by rfl) | skip); (try dsimp only at this); clear hk2; (first | (have hsh : NR _ _ _ _ _ _ := hp.2.2.2.1; have hsz : Z' 4 2 = _ := hp.2.2.1; have hrw : NRW _ 4 := NR_w (o := 4) hsh hsz (by (simp (disch := omega) only [tdiv_nn, w32_id]); omega) (by (simp (disch := omega) only [tdiv_nn, w32_id]); omega); have h42 := hsz; have hs9 : 1 ≤ Z' 4 2 ∧ Z' 4 2 ≤ 9 := by (rw [hsz]; exact NR_9 hsh rfl (by (simp (disch := omega) only [tdiv_nn, w32_id]); omega) (by (simp (disch := omega) only [tdiv_nn, w32_id]); omega))) | (have hb70 : BM _ 70 2 := hp.2.1; have hd70 := hp.1) | (have hb72 : BM _ 72 2 := hp.2.1; have hd72 := hp.1) | (have hb74 : BM _ 74 2 := hp.2.1; have hd74 := hp.1) | (have hbs : BM _ 76 4 := hp.2.1; have hd76 := hp.1) | skip))
            | (obtain ⟨rfl, rfl⟩ := hq)
            | (obtain ⟨Z', x, rfl, rfl, hI2, hk2⟩ := hq; have hkn := keeps_nil hk2; clear hk2; subst hkn)
            | (obtain ⟨Z', x, rfl, rfl, hI2, hk2⟩ := hq; (first | have hk3 := kp_to (by first | with_reducible assumption | assumption) (by rfl) hk2 | have hk3 := ks_to (by first | with_reducible assumption | assumption) (by rfl) hk2); (try have hk2 := kp_of hk2); (first | have hrwq := hrw | (have hrw := (hb76 (by omega)).2.1; have hs9 := (hb76 (by omega)).2.2; have h42 : Z 4 2 = Z 4 2 := rfl) | skip); (try have hb70 := BMk 70 2 hk2 (by rfl) hb70); (try have hb72 := BMk 72 2 hk2 (by rfl) hb72); (try have hb74 := BMk 74 2 hk2 (by rfl) hb74); (try have hb76 := B76k hk2 (by rfl) hb76); (try have hns := NBS_kp hk2 (by rfl) hns); (try have hnf := NBF_k hk2 (by rfl) hnf); (try have hbs := BMk 76 4 hk2 (by rfl) hbs); (try have hrw := NRW_o (kp_av (o := 5) hk2 (by rfl) (by decide)) (kpF 4 2 hk2 (by rfl)) hrw); (try have h42 := (kpF 4 2 hk2 (by rfl)).trans h42); (first | have := kpF 76 4 hk2 (by rfl) | have := ksF 76 4 hk2 (by rfl) | skip); (try dsimp only at this); (first | have := kpF 70 4 hk2 (by rfl) | have := ksF 70 4 hk2 (by rfl) | skip); (try dsimp only at this); (first | have := kpF 18 3 hk2 (by rfl) | have := ksF 18 3 hk2 (by rfl) | skip); (try dsimp only at this); (first | have := kpF 2 0 hk2 (by rfl) | have := ksF 2 0 hk2 (by rfl) | skip); (try dsimp only at this); (first | have := kpF 2 1 hk2 (by rfl) | have := ksF 2 1 hk2 (by rfl) | skip); (try dsimp only at this); clear hk2)
            | (rcases hq with ⟨Z', rfl, rfl, hI2, hk2⟩ | ⟨Z', rfl, rfl, hI2, hk2⟩ <;> ((first | have hk3 := kp_to (by first | with_reducible assumption | assumption) (by rfl) hk2 | have hk3 := ks_to (by first | with_reducible assumption | assumption) (by rfl) hk2); (try have hk2 := kp_of hk2); (first | have hrwq := hrw | (have hrw := (hb76 (by omega)).2.1; have hs9 := (hb76 (by omega)).2.2; have h42 : Z 4 2 = Z 4 2 := rfl) | skip); (try have hb70 := BMk 70 2 hk2 (by rfl) hb70); (try have hb72 := BMk 72 2 hk2 (by rfl) hb72); (try have hb74 := BMk 74 2 hk2 (by rfl) hb74); (try have hb76 := B76k hk2 (by rfl) hb76); (try have hns := NBS_kp hk2 (by rfl) hns); (try have hnf := NBF_k hk2 (by rfl) hnf); (try have hbs := BMk 76 4 hk2 (by rfl) hbs); (try have hrw := NRW_o (kp_av (o := 5) hk2 (by rfl) (by decide)) (kpF 4 2 hk2 (by rfl)) hrw); (try have h42 := (kpF 4 2 hk2 (by rfl)).trans h42); (first | have := kpF 76 4 hk2 (by rfl) | have := ksF 76 4 hk2 (by rfl) | skip); (try dsimp only at this); (first | have := kpF 70 4 hk2 (by rfl) | have := ksF 70 4 hk2 (by rfl) | skip); (try dsimp only at this); (first | have := kpF 18 3 hk2 (by rfl) | have := ksF 18 3 hk2 (by rfl) | skip); (try dsimp only at this); (first | have := kpF 2 0 hk2 (by rfl) | have := ksF 2 0 hk2 (by rfl) | skip); (try dsimp only at this); (first | have := kpF 2 1 hk2 (by rfl) | have := ksF 2 1 hk2 (by rfl) | skip); (try dsimp only at this); clear hk2))
            | (obtain ⟨Z', rfl, rfl, hI2, hk2⟩ := hq; (first | have hk3 := kp_to (by first | with_reducible assumption | assumption) (by rfl) hk2 | have hk3 := ks_to (by first | with_reducible assumption | assumption) (by rfl) hk2); (try have hk2 := kp_of hk2); (first | have hrwq := hrw | (have hrw := (hb76 (by omega)).2.1; have hs9 := (hb76 (by omega)).2.2; have h42 : Z 4 2 = Z 4 2 := rfl) | skip); (try have hb70 := BMk 70 2 hk2 (by rfl) hb70); (try have hb72 := BMk 72 2 hk2 (by rfl) hb72); (try have hb74 := BMk 74 2 hk2 (by rfl) hb74); (try have hb76 := B76k hk2 (by rfl) hb76); (try have hns := NBS_kp hk2 (by rfl) hns); (try have hnf := NBF_k hk2 (by rfl) hnf); (try have hbs := BMk 76 4 hk2 (by rfl) hbs); (try have hrw := NRW_o (kp_av (o := 5) hk2 (by rfl) (by decide)) (kpF 4 2 hk2 (by rfl)) hrw); (try have h42 := (kpF 4 2 hk2 (by rfl)).trans h42); (first | have := kpF 76 4 hk2 (by rfl) | have := ksF 76 4 hk2 (by rfl) | skip); (try dsimp only at this); (first | have := kpF 70 4 hk2 (by rfl) | have := ksF 70 4 hk2 (by rfl) | skip); (try dsimp only at this); (first | have := kpF 18 3 hk2 (by rfl) | have := ksF 18 3 hk2 (by rfl) | skip); (try dsimp only at this); (first | have := kpF 2 0 hk2 (by rfl) | have := ksF 2 0 hk2 (by rfl) | skip); (try dsimp only at this); (first | have := kpF 2 1 hk2 (by rfl) | have := ksF 2 1 hk2 (by rfl) | skip); (try dsimp only at this); clear hk2))
         | (intro hc; (try simp only [cmp3_c] at hc); simp only [cmpI] at hc)
         | (show CI _; assumption)
         | intro (_ : Int)
         | intro (Z' : ZT)
         | intro (_ : CI _)
         | (intro (hkk : kp _ _ _))
         | intro (_ : _ ≤ _)
         | (intro (hup : _ = upZ _ _ _ _); (try dsimp only at hup); (first | have := (congrFun (congrFun hup 76) 4).trans (up_ne (by decide)) | have := (congrFun (congrFun hup 76) 4).trans (up_nk (o := 76) (by decide)) | skip); (first | have := (congrFun (congrFun hup 70) 4).trans (up_ne (by decide)) | have := (congrFun (congrFun hup 70) 4).trans (up_nk (o := 70) (by decide)) | skip); (try have hb70 := BMk 70 2 (kp_one hup) (by rfl) hb70); (try have hb72 := BMk 72 2 (kp_one hup) (by rfl) hb72); (try have hb74 := BMk 74 2 (kp_one hup) (by rfl) hb74); (try have hb76 := B76k (kp_one hup) (by rfl) hb76); (try have hns := NBS_kp (kp_one hup) (by rfl) hns); (try have hnf := NBF_k (kp_one hup) (by rfl) hnf); (try have hbs := BMk 76 4 (kp_one hup) (by rfl) hbs); (try have hrw := NRW_o (up_o hup (by decide)) ((congrFun (up_o hup (by decide)) 2)) hrw); (try have h42 := (congrFun (up_o hup (by decide)) 2).trans h42))
         | (intro (hld : _ = _); (try dsimp only at hld); (try simp only [Nat.reduceAdd] at hld))
         | intro (_ : _ < _)
         | intro (_ : _ ≠ _)
         | intro (_ : _ ∨ _)))
  all_goals (try obtain ⟨lp60, lp73⟩ := loop 1000000)
  all_goals first
    | ((with_reducible show G 60 _ _ _); refine hG.2 60 _ [(0, vr 1), (1, vi a1), (2, vi _)] _ _ rfl ?_)
    | ((with_reducible show G 73 _ _ _); refine hG.2 73 _ [(0, vr 1), (1, vi a1), (2, vi _), (3, vi _)] _ _ rfl ?_)
    | ((fail_if_success (first | (with_reducible show _ ≤ _) | (with_reducible show _ = _) | (with_reducible show _ ∨ _) | (with_reducible show _ < _))); first | refine hG.2 60 _ [(0, vr 1), (1, vi a1), (2, vi _)] _ _ rfl ?_ | refine hG.2 73 _ [(0, vr 1), (1, vi a1), (2, vi _), (3, vi _)] _ _ rfl ?_)
    | skip
  all_goals first
    | with_reducible rfl
    | ((with_reducible show _ = _); rfl)
    | ((with_reducible show recvG _ _); rfl)
    | ((with_reducible show G 60 _ _ _); refine lp60 _ _ ?_ ?_ ?_ ?_; assumption; assumption; (refine ⟨?_, ?_, ?_, ?_, ?_, trivial⟩; (first | done | focus (first | (dsimp only; done) | ((try dsimp only); (first | omega | (refine ⟨?_, ?_⟩ <;> (first | omega | ((try dsimp only); (first | omega | (simp (disch := omega) only [w32_id, w64_id]; omega) | (simp only [w32, w64]; omega) | (with_reducible refine (and32_le ?_ ?_).1 <;> omega) | (with_reducible refine (and32_le ?_ ?_).2 <;> omega) | (with_reducible refine (mulR ?_ ?_ ?_ ?_).1 <;> omega) | (with_reducible refine (mulR ?_ ?_ ?_ ?_).2 <;> omega) | (simp only [w32, w64] at *; omega) | (simp (disch := omega) only [w32_id, w64_id] at *; omega) | (simp (disch := omega) only [tdiv_nn, tmod_nn, w32_id, w64_id] at *; omega) | (subst_vars; simp [upZ] at *; omega) | (subst_vars; simp [upZ] at *; simp only [w32, w64] at *; omega))) | fail)) | (first | omega | ((try dsimp only); (first | omega | (simp (disch := omega) only [w32_id, w64_id]; omega) | (simp only [w32, w64]; omega) | (with_reducible refine (and32_le ?_ ?_).1 <;> omega) | (with_reducible refine (and32_le ?_ ?_).2 <;> omega) | (with_reducible refine (mulR ?_ ?_ ?_ ?_).1 <;> omega) | (with_reducible refine (mulR ?_ ?_ ?_ ?_).2 <;> omega) | (simp only [w32, w64] at *; omega) | (simp (disch := omega) only [w32_id, w64_id] at *; omega) | (simp (disch := omega) only [tdiv_nn, tmod_nn, w32_id, w64_id] at *; omega) | (subst_vars; simp [upZ] at *; omega) | (subst_vars; simp [upZ] at *; simp only [w32, w64] at *; omega))) | fail) | fail)))); (first | done | focus (first | (dsimp only; done) | ((try dsimp only); ((exact ⟨hb70, hb72, hb74⟩))))); (first | done | focus (first | (dsimp only; done) | ((try dsimp only); ((first | (refine ⟨hrw, ?_, ?_⟩ <;> omega) | (have hm3 := mul3 (show 1 ≤ Int.tdiv (Z 2 0) 2 ∧ _ from (by (simp (disch := omega) only [tdiv_nn, w32_id]); omega)) (show 1 ≤ Int.tdiv (Z 2 1) 2 ∧ _ from (by (simp (disch := omega) only [tdiv_nn, w32_id]); omega)); skip) | fail))))); (first | done | focus (first | (dsimp only; done) | ((try dsimp only); ((exact ⟨hns, hnf⟩))))); (first | done | focus (first | (dsimp only; done) | ((try dsimp only); (first | with_reducible assumption | first | omega | (refine ⟨?_, ?_⟩ <;> (first | omega | ((try dsimp only); (first | omega | (simp (disch := omega) only [w32_id, w64_id]; omega) | (simp only [w32, w64]; omega) | (with_reducible refine (and32_le ?_ ?_).1 <;> omega) | (with_reducible refine (and32_le ?_ ?_).2 <;> omega) | (with_reducible refine (mulR ?_ ?_ ?_ ?_).1 <;> omega) | (with_reducible refine (mulR ?_ ?_ ?_ ?_).2 <;> omega) | (simp only [w32, w64] at *; omega) | (simp (disch := omega) only [w32_id, w64_id] at *; omega) | (simp (disch := omega) only [tdiv_nn, tmod_nn, w32_id, w64_id] at *; omega) | (subst_vars; simp [upZ] at *; omega) | (subst_vars; simp [upZ] at *; simp only [w32, w64] at *; omega))) | fail)) | (first | omega | ((try dsimp only); (first | omega | (simp (disch := omega) only [w32_id, w64_id]; omega) | (simp only [w32, w64]; omega) | (with_reducible refine (and32_le ?_ ?_).1 <;> omega) | (with_reducible refine (and32_le ?_ ?_).2 <;> omega) | (with_reducible refine (mulR ?_ ?_ ?_ ?_).1 <;> omega) | (with_reducible refine (mulR ?_ ?_ ?_ ?_).2 <;> omega) | (simp only [w32, w64] at *; omega) | (simp (disch := omega) only [w32_id, w64_id] at *; omega) | (simp (disch := omega) only [tdiv_nn, tmod_nn, w32_id, w64_id] at *; omega) | (subst_vars; simp [upZ] at *; omega) | (subst_vars; simp [upZ] at *; simp only [w32, w64] at *; omega))) | fail) | fail))))); (first | omega | ((try dsimp only); (first | omega | (simp (disch := omega) only [w32_id, w64_id]; omega) | (simp only [w32, w64]; omega) | (with_reducible refine (and32_le ?_ ?_).1 <;> omega) | (with_reducible refine (and32_le ?_ ?_).2 <;> omega) | (with_reducible refine (mulR ?_ ?_ ?_ ?_).1 <;> omega) | (with_reducible refine (mulR ?_ ?_ ?_ ?_).2 <;> omega) | (simp only [w32, w64] at *; omega) | (simp (disch := omega) only [w32_id, w64_id] at *; omega) | (simp (disch := omega) only [tdiv_nn, tmod_nn, w32_id, w64_id] at *; omega) | (subst_vars; simp [upZ] at *; omega) | (subst_vars; simp [upZ] at *; simp only [w32, w64] at *; omega))) | fail))
    | ((with_reducible show G 73 _ _ _); refine lp73 _ _ _ ?_ ?_ ?_ ?_; assumption; assumption; (refine ⟨?_, ?_, ?_, ?_, ?_, ?_, trivial⟩; (first | done | focus (first | (dsimp only; done) | ((try dsimp only); (first | omega | (refine ⟨?_, ?_⟩ <;> (first | omega | ((try dsimp only); (first | omega | (simp (disch := omega) only [w32_id, w64_id]; omega) | (simp only [w32, w64]; omega) | (with_reducible refine (and32_le ?_ ?_).1 <;> omega) | (with_reducible refine (and32_le ?_ ?_).2 <;> omega) | (with_reducible refine (mulR ?_ ?_ ?_ ?_).1 <;> omega) | (with_reducible refine (mulR ?_ ?_ ?_ ?_).2 <;> omega) | (simp only [w32, w64] at *; omega) | (simp (disch := omega) only [w32_id, w64_id] at *; omega) | (simp (disch := omega) only [tdiv_nn, tmod_nn, w32_id, w64_id] at *; omega) | (subst_vars; simp [upZ] at *; omega) | (subst_vars; simp [upZ] at *; simp only [w32, w64] at *; omega))) | fail)) | (first | omega | ((try dsimp only); (first | omega | (simp (disch := omega) only [w32_id, w64_id]; omega) | (simp only [w32, w64]; omega) | (with_reducible refine (and32_le ?_ ?_).1 <;> omega) | (with_reducible refine (and32_le ?_ ?_).2 <;> omega) | (with_reducible refine (mulR ?_ ?_ ?_ ?_).1 <;> omega) | (with_reducible refine (mulR ?_ ?_ ?_ ?_).2 <;> omega) | (simp only [w32, w64] at *; omega) | (simp (disch := omega) only [w32_id, w64_id] at *; omega) | (simp (disch := omega) only [tdiv_nn, tmod_nn, w32_id, w64_id] at *; omega) | (subst_vars; simp [upZ] at *; omega) | (subst_vars; simp [upZ] at *; simp only [w32, w64] at *; omega))) | fail) | fail)))); (first | done | focus (first | (dsimp only; done) | ((try dsimp only); (first | omega | (refine ⟨?_, ?_⟩ <;> (first | omega | ((try dsimp only); (first | omega | (simp (disch := omega) only [w32_id, w64_id]; omega) | (simp only [w32, w64]; omega) | (with_reducible refine (and32_le ?_ ?_).1 <;> omega) | (with_reducible refine (and32_le ?_ ?_).2 <;> omega) | (with_reducible refine (mulR ?_ ?_ ?_ ?_).1 <;> omega) | (with_reducible refine (mulR ?_ ?_ ?_ ?_).2 <;> omega) | (simp only [w32, w64] at *; omega) | (simp (disch := omega) only [w32_id, w64_id] at *; omega) | (simp (disch := omega) only [tdiv_nn, tmod_nn, w32_id, w64_id] at *; omega) | (subst_vars; simp [upZ] at *; omega) | (subst_vars; simp [upZ] at *; simp only [w32, w64] at *; omega))) | fail)) | (first | omega | ((try dsimp only); (first | omega | (simp (disch := omega) only [w32_id, w64_id]; omega) | (simp only [w32, w64]; omega) | (with_reducible refine (and32_le ?_ ?_).1 <;> omega) | (with_reducible refine (and32_le ?_ ?_).2 <;> omega) | (with_reducible refine (mulR ?_ ?_ ?_ ?_).1 <;> omega) | (with_reducible refine (mulR ?_ ?_ ?_ ?_).2 <;> omega) | (simp only [w32, w64] at *; omega) | (simp (disch := omega) only [w32_id, w64_id] at *; omega) | (simp (disch := omega) only [tdiv_nn, tmod_nn, w32_id, w64_id] at *; omega) | (subst_vars; simp [upZ] at *; omega) | (subst_vars; simp [upZ] at *; simp only [w32, w64] at *; omega))) | fail) | fail)))); (first | done | focus (first | (dsimp only; done) | ((try dsimp only); ((exact ⟨hb70, hb72, hb74⟩))))); (first | done | focus (first | (dsimp only; done) | ((try dsimp only); ((first | (refine ⟨hrw, ?_, ?_⟩ <;> omega) | (have hm3 := mul3 (show 1 ≤ Int.tdiv (Z 2 0) 2 ∧ _ from (by (simp (disch := omega) only [tdiv_nn, w32_id]); omega)) (show 1 ≤ Int.tdiv (Z 2 1) 2 ∧ _ from (by (simp (disch := omega) only [tdiv_nn, w32_id]); omega)); skip) | fail))))); (first | done | focus (first | (dsimp only; done) | ((try dsimp only); ((exact ⟨hns, hnf⟩))))); (first | done | focus (first | (dsimp only; done) | ((try dsimp only); (first | with_reducible assumption | first | omega | (refine ⟨?_, ?_⟩ <;> (first | omega | ((try dsimp only); (first | omega | (simp (disch := omega) only [w32_id, w64_id]; omega) | (simp only [w32, w64]; omega) | (with_reducible refine (and32_le ?_ ?_).1 <;> omega) | (with_reducible refine (and32_le ?_ ?_).2 <;> omega) | (with_reducible refine (mulR ?_ ?_ ?_ ?_).1 <;> omega) | (with_reducible refine (mulR ?_ ?_ ?_ ?_).2 <;> omega) | (simp only [w32, w64] at *; omega) | (simp (disch := omega) only [w32_id, w64_id] at *; omega) | (simp (disch := omega) only [tdiv_nn, tmod_nn, w32_id, w64_id] at *; omega) | (subst_vars; simp [upZ] at *; omega) | (subst_vars; simp [upZ] at *; simp only [w32, w64] at *; omega))) | fail)) | (first | omega | ((try dsimp only); (first | omega | (simp (disch := omega) only [w32_id, w64_id]; omega) | (simp only [w32, w64]; omega) | (with_reducible refine (and32_le ?_ ?_).1 <;> omega) | (with_reducible refine (and32_le ?_ ?_).2 <;> omega) | (with_reducible refine (mulR ?_ ?_ ?_ ?_).1 <;> omega) | (with_reducible refine (mulR ?_ ?_ ?_ ?_).2 <;> omega) | (simp only [w32, w64] at *; omega) | (simp (disch := omega) only [w32_id, w64_id] at *; omega) | (simp (disch := omega) only [tdiv_nn, tmod_nn, w32_id, w64_id] at *; omega) | (subst_vars; simp [upZ] at *; omega) | (subst_vars; simp [upZ] at *; simp only [w32, w64] at *; omega))) | fail) | fail))))); (first | omega | ((try dsimp only); (first | omega | (simp (disch := omega) only [w32_id, w64_id]; omega) | (simp only [w32, w64]; omega) | (with_reducible refine (and32_le ?_ ?_).1 <;> omega) | (with_reducible refine (and32_le ?_ ?_).2 <;> omega) | (with_reducible refine (mulR ?_ ?_ ?_ ?_).1 <;> omega) | (with_reducible refine (mulR ?_ ?_ ?_ ?_).2 <;> omega) | (simp only [w32, w64] at *; omega) | (simp (disch := omega) only [w32_id, w64_id] at *; omega) | (simp (disch := omega) only [tdiv_nn, tmod_nn, w32_id, w64_id] at *; omega) | (subst_vars; simp [upZ] at *; omega) | (subst_vars; simp [upZ] at *; simp only [w32, w64] at *; omega))) | fail))
    | with_reducible exact trivial
    | with_reducible assumption
    | ((with_reducible show NRW _ 4); first | exact hrw | exact (hb76 (by omega)).2.1)
    | ((with_reducible show _ ≤ _); (show _ ≤ (9 : Int)); first | exact hs9.2 | exact Int.le_trans (Int.le_of_eq h42) hs9.2 | exact (hb76 (by omega)).2.2.2)
    | ((with_reducible show (0 : Int) ≤ _); simp only [Nat.reduceAdd]; omega)
    | ((with_reducible show NRW _ 2); exact hns.2.1)
    | ((with_reducible show NWC _); exact hns.2.2.2.1)
    | ((with_reducible show _ = _); first | exact hnf.1.1 | exact hnf.1.2.1 | exact hnf.1.2.2.1 | exact hnf.1.2.2.2)
    | ((with_reducible show _ ≤ _); (show _ ≤ (36 : Int)); have hgc := (by assumption : CI _) 2 2 4 36 rfl; exact hgc.2)
    | ((with_reducible show _ ≤ _); (try dsimp only); have hsr := hns.2.2.2.2.2; omega)
    | ((fail_if_success (first | (with_reducible show _ ≤ _) | (with_reducible show _ = _) | (with_reducible show _ ∨ _) | (with_reducible show _ < _) | (with_reducible show G _ _ _ _))); (refine Exists.intro _ (And.intro rfl (And.intro rfl ?_)); refine ⟨by assumption, by assumption, ?_⟩; (refine ⟨?_, ?_, ?_, trivial⟩; (first | done | focus (first | (dsimp only; done) | ((try dsimp only); ((refine NBB_i hb70 hb72 hb74 (fun _ => ⟨hbs, ?_⟩); first | exact ⟨hrw, by omega, by omega⟩ | exact (hb76 (by omega)).2 | fail))))); (first | done | focus (first | (dsimp only; done) | ((try dsimp only); ((first | omega | exact hd76 | (have h1 := hd76.1; have h2 := hd76.2; simp only [Nat.reduceAdd] at h1 h2; exact ⟨by omega, by omega⟩) | fail))))); (first | done | focus (first | (dsimp only; done) | ((try dsimp only); ((first | exact hd70 | omega | fail))))))))
    | ((fail_if_success (first | (with_reducible show _ ≤ _) | (with_reducible show _ = _) | (with_reducible show _ ∨ _) | (with_reducible show _ < _) | (with_reducible show G _ _ _ _))); (refine Exists.intro _ (And.intro rfl (And.intro rfl ?_)); refine ⟨by assumption, by assumption, ?_⟩; simp only [Nat.reduceAdd] at *; (refine ⟨?_, ?_, ?_, trivial⟩; (first | done | focus (first | (dsimp only; done) | ((try dsimp only); ((refine NBB_i hb70 hb72 hb74 (fun _ => ⟨hbs, ?_⟩); first | exact ⟨hrw, by omega, by omega⟩ | exact (hb76 (by omega)).2 | fail))))); (first | done | focus (first | (dsimp only; done) | ((try dsimp only); ((first | omega | exact hd76 | (have h1 := hd76.1; have h2 := hd76.2; simp only [Nat.reduceAdd] at h1 h2; exact ⟨by omega, by omega⟩) | fail))))); (first | done | focus (first | (dsimp only; done) | ((try dsimp only); ((first | exact hd70 | omega | fail))))))))
    | omega
    | (dsimp only; omega)
    | decide
    | (show (0 : Int) < _; omega)
    | (show (0 : Int) < _; simp only [w64] at *; omega)
    | (simp only [w32, w64] at *; omega)
    | (first | omega | ((try dsimp only); (first | omega | (simp (disch := omega) only [w32_id, w64_id]; omega) | (simp only [w32, w64]; omega) | (with_reducible refine (and32_le ?_ ?_).1 <;> omega) | (with_reducible refine (and32_le ?_ ?_).2 <;> omega) | (with_reducible refine (mulR ?_ ?_ ?_ ?_).1 <;> omega) | (with_reducible refine (mulR ?_ ?_ ?_ ?_).2 <;> omega) | (simp only [w32, w64] at *; omega) | (simp (disch := omega) only [w32_id, w64_id] at *; omega) | (simp (disch := omega) only [tdiv_nn, tmod_nn, w32_id, w64_id] at *; omega) | (subst_vars; simp [upZ] at *; omega) | (subst_vars; simp [upZ] at *; simp only [w32, w64] at *; omega))) | fail)
    | ((with_reducible show swT _ _ _ _); exact trivial)
    | rfl
    | ((fail_if_success (first | (with_reducible show _ ≤ _) | (with_reducible show _ = _) | (with_reducible show _ ∨ _) | (with_reducible show _ < _) | (with_reducible show G _ _ _ _) | (with_reducible show Exists _))); exact trivial)
    | skip
def s_X10_coarseB : Sp := rRI 4 10 (fun as Z => match as with
    | [.inr (.inr a0), .inl a1, .inl a2, .inl a3] => ((a0 = 1)) ∧ (True) ∧ (True) ∧ (True) ∧ (NBS Z) ∧ (NBF Z) ∧ (NBB Z) ∧ (0 ≤ Z 18 3 ∧ Z 18 3 ≤ 2) ∧ True
    | _ => False) (fun as => match as with
    | [.inr (.inr a0), .inl a1, .inl a2, .inl a3] => [4, 5, 71, 77, 5070, 5076]
    | _ => []) (fun as Z (x : Int) Z' => match as with
    | [.inr (.inr a0), .inl a1, .inl a2, .inl a3] => (NBB Z') ∧ True
    | _ => False)
set_option maxRecDepth 100000 in
set_option maxHeartbeats 40000000 in
theorem c_X10_coarseB {l : Launch} {D : va_G} {cA : Nat → ClassId} : PM l D cA yX10_coarse cX10_coarse 6 (some .int) 6 164 s_X10_coarseB := by
  refine of_X10_coarse (c_X10_isLaterStep) ⟨rfl, rfl⟩ (c_X10_isLetter) ⟨rfl, rfl⟩ (c_X10_reckonSmallN) ⟨rfl, rfl⟩ (c_X10_isOff) ⟨rfl, rfl⟩ (fun as σ hwf hao hpre => ?_)
  obtain ⟨n, Z, R⟩ := σ
  obtain ⟨hR, hI, hpre⟩ := hpre
  obtain rfl : R = R0 := hR
  (try replace hI : CI Z := hI)
  rcases as with _ | ⟨x | x | a0, _ | ⟨a1 | x | x, _ | ⟨a2 | x | x, _ | ⟨a3 | x | x, _ | ⟨v, t⟩⟩⟩⟩⟩ <;> first | exact (hpre : False).elim | skip
  obtain ⟨k1l, k1u⟩ : okI a1 := hao (vi a1) (by simp)
  obtain ⟨k2l, k2u⟩ : okI a2 := hao (vi a2) (by simp)
  obtain ⟨k3l, k3u⟩ : okI a3 := hao (vi a3) (by simp)
  obtain ⟨h0, h1, h2, h3, q0, q1, q2, q3, -⟩ := hpre
  have hk : kp ([4, 5, 71, 77, 5070, 5076]) Z Z := kp_refl
  refine ⟨Nat.le_of_ble_eq_true rfl, fun G hG => ?_⟩
  clear hao hwf
  (try dsimp only at q0)
  (try dsimp only at q1)
  (try dsimp only at q2)
  (try dsimp only at q3)
  obtain rfl := h0
  have loop : ∀ fuel : Nat, (∀ (Z1 : ZT) (v4 : Int) (v5 : Int), CI Z1 → kp ([4, 5, 71, 77, 5070, 5076]) Z Z1 → ((0 ≤ v5 ∧ v5 ≤ 36) ∧ (NBB Z1) ∧ True) → 37 - v5 ≤ (fuel : Int) → G 65 [(0, vr 1), (1, vi a1), (2, vi a2), (3, vi a3), (4, vi v4), (5, vi v5)] [] (n, Z1, R0)) := by
    intro fuel
    induction fuel with
    | zero => exact (by intros; omega)
    | succ fuel ih =>
      have ih65 := ih
      · intro Z1 v4 v5 hI1 hk1 hv hm
        obtain ⟨w0, w1, -⟩ := hv
        clear hk hI
        have hnbb := w1
        refine wq_run hG n R0 [65] 900 _ _ _ _ ?_
        repeat' (first
            | with_reducible rfl
            | ((with_reducible show NBS _); first | exact q0 | exact hnb)
            | ((with_reducible show NBF _); first | exact q1 | exact hnf)
            | ((with_reducible show FRR _); exact q0.1)
            | ((with_reducible show PLW _); exact q0.2.2.1)
            | ((with_reducible show ORD _ _); exact q0.2.2.2.2.1)
            | ((with_reducible show BM _ 70 2); exact q2.1)
            | ((with_reducible show BM _ 72 2); exact q2.2.1)
            | ((with_reducible show NBB _); exact q2)
            | refine And.intro ?_ ?_
            | with_reducible exact True.intro
            | ((with_reducible show _ = true); rfl)
            | ((with_reducible show recvG _ _); rfl)
            | ((with_reducible show CI _); first | with_reducible assumption | assumption)
            | (fail_if_success (first | (with_reducible show _ ≤ _) | (with_reducible show _ = _) | (with_reducible show _ ∨ _) | (with_reducible show _ < _) | (with_reducible show G _ _ _ _))
               first
               | show G _ _ _ _
               | (refine ld_bnd (by first | with_reducible assumption | assumption) rfl ?_; intro _ _ _ hld; (try dsimp only at hld); (try simp only [Nat.reduceAdd] at hld))
               | (refine st_k (by first | with_reducible assumption | assumption) (by first | with_reducible assumption | assumption) (by first | exact Or.inl (by decide) | exact Or.inr (by decide)) (fun lo hi hb => by first | (cases hb; done) | (cases hb; constructor <;> (first | omega | ((try dsimp only); (first | omega | (simp (disch := omega) only [w32_id, w64_id]; omega) | (simp only [w32, w64]; omega) | (with_reducible refine (and32_le ?_ ?_).1 <;> omega) | (with_reducible refine (and32_le ?_ ?_).2 <;> omega) | (with_reducible refine (mulR ?_ ?_ ?_ ?_).1 <;> omega) | (with_reducible refine (mulR ?_ ?_ ?_ ?_).2 <;> omega) | (simp only [w32, w64] at *; omega) | (simp (disch := omega) only [w32_id, w64_id] at *; omega) | (simp (disch := omega) only [tdiv_nn, tmod_nn, w32_id, w64_id] at *; omega) | (subst_vars; simp [upZ] at *; omega) | (subst_vars; simp [upZ] at *; simp only [w32, w64] at *; omega))) | fail))) ?_; intro Z' _ hkk; intro hld; (try dsimp only at hld); (try simp only [Nat.reduceAdd] at hld); intro hup; (try dsimp only at hup))
               | (refine st_k (by first | with_reducible assumption | assumption) (by first | with_reducible assumption | assumption) (by first | exact Or.inl (by decide) | exact Or.inr (by decide)) (fun lo hi hb => ?_) ?_; (cases hb; refine And.intro ?_ ?_))
               | refine st_same ?_
               | (intro (r : Option PV) σ' hq
                  first
                  | (obtain ⟨rfl, x, rfl, hp⟩ := hq; (try replace hp : _ ∧ _ := hp); (try dsimp only at hp); (try (have hnbb : NBB _ := hp.1)))
                  | (obtain ⟨Z', (o : Nat), rfl, rfl, hI2, hk2, ⟨⟨hp, rfl⟩ | ⟨hp, rfl⟩, -⟩⟩ := hq <;> ((first | have hk3 := kp_to (by first | with_reducible assumption | assumption) (by rfl) hk2 | have hk3 := ks_to (by first | with_reducible assumption | assumption) (by rfl) hk2); (first | have hnbb := NBB_kp hk2 (by rfl) hnbb | have hnbb := NBB_kp (kp_of hk2) (by rfl) hnbb | skip); clear hk2))
                  | (obtain ⟨Z', x, rfl, rfl, hI2, hk2, hp⟩ := hq; (try replace hp : _ ∧ _ := hp); (try dsimp only at hp); (first | have hk3 := kp_to (by first | with_reducible assumption | assumption) (by rfl) hk2 | have hk3 := ks_to (by first | with_reducible assumption | assumption) (by rfl) hk2); (first | have hnbb := NBB_kp hk2 (by rfl) hnbb | have hnbb := NBB_kp (kp_of hk2) (by rfl) hnbb | skip); clear hk2; (try (have hnbb : NBB _ := hp.1)))
                  | (obtain ⟨Z', rfl, rfl, hI2, hk2, hp⟩ := hq; (try replace hp : _ ∧ _ := hp); (try dsimp only at hp); (first | have hk3 := kp_to (by first | with_reducible assumption | assumption) (by rfl) hk2 | have hk3 := ks_to (by first | with_reducible assumption | assumption) (by rfl) hk2); (first | have hnbb := NBB_kp hk2 (by rfl) hnbb | have hnbb := NBB_kp (kp_of hk2) (by rfl) hnbb | skip); clear hk2; (try (have hnbb : NBB _ := hp.1)))
                  | (obtain ⟨rfl, rfl⟩ := hq)
                  | (obtain ⟨Z', x, rfl, rfl, hI2, hk2⟩ := hq; have hkn := keeps_nil hk2; clear hk2; subst hkn)
                  | (obtain ⟨Z', x, rfl, rfl, hI2, hk2⟩ := hq; (first | have hk3 := kp_to (by first | with_reducible assumption | assumption) (by rfl) hk2 | have hk3 := ks_to (by first | with_reducible assumption | assumption) (by rfl) hk2); (first | have hnbb := NBB_kp hk2 (by rfl) hnbb | have hnbb := NBB_kp (kp_of hk2) (by rfl) hnbb | skip); clear hk2)
                  | (rcases hq with ⟨Z', rfl, rfl, hI2, hk2⟩ | ⟨Z', rfl, rfl, hI2, hk2⟩ <;> ((first | have hk3 := kp_to (by first | with_reducible assumption | assumption) (by rfl) hk2 | have hk3 := ks_to (by first | with_reducible assumption | assumption) (by rfl) hk2); (first | have hnbb := NBB_kp hk2 (by rfl) hnbb | have hnbb := NBB_kp (kp_of hk2) (by rfl) hnbb | skip); clear hk2))
                  | (obtain ⟨Z', rfl, rfl, hI2, hk2⟩ := hq; (first | have hk3 := kp_to (by first | with_reducible assumption | assumption) (by rfl) hk2 | have hk3 := ks_to (by first | with_reducible assumption | assumption) (by rfl) hk2); (first | have hnbb := NBB_kp hk2 (by rfl) hnbb | have hnbb := NBB_kp (kp_of hk2) (by rfl) hnbb | skip); clear hk2))
               | (intro hc; (try simp only [cmp3_c] at hc); simp only [cmpI] at hc)
               | (show CI _; assumption)
               | intro (_ : Int)
               | intro (Z' : ZT)
               | intro (_ : CI _)
               | (intro (hkk : kp _ _ _))
               | intro (_ : _ ≤ _)
               | (intro (hup : _ = upZ _ _ _ _); (try dsimp only at hup))
               | (intro (hld : _ = _); (try dsimp only at hld); (try simp only [Nat.reduceAdd] at hld))
               | intro (_ : _ < _)
               | intro (_ : _ ≠ _)
               | intro (_ : _ ∨ _)))
        all_goals first
          | ((with_reducible show G 65 _ _ _); refine hG.2 65 _ [(0, vr 1), (1, vi a1), (2, vi a2), (3, vi a3), (4, vi _), (5, vi _)] _ _ rfl ?_)
          | ((fail_if_success (first | (with_reducible show _ ≤ _) | (with_reducible show _ = _) | (with_reducible show _ ∨ _) | (with_reducible show _ < _))); first | refine hG.2 65 _ [(0, vr 1), (1, vi a1), (2, vi a2), (3, vi a3), (4, vi _), (5, vi _)] _ _ rfl ?_)
          | skip
        all_goals first
          | with_reducible rfl
          | ((with_reducible show _ = _); rfl)
          | ((with_reducible show recvG _ _); rfl)
          | ((with_reducible show G 65 _ _ _); refine ih65 _ _ _ ?_ ?_ ?_ ?_; assumption; assumption; (refine ⟨?_, ?_, trivial⟩; (first | done | focus (first | (dsimp only; done) | ((try dsimp only); (first | omega | (refine ⟨?_, ?_⟩ <;> (first | omega | ((try dsimp only); (first | omega | (simp (disch := omega) only [w32_id, w64_id]; omega) | (simp only [w32, w64]; omega) | (with_reducible refine (and32_le ?_ ?_).1 <;> omega) | (with_reducible refine (and32_le ?_ ?_).2 <;> omega) | (with_reducible refine (mulR ?_ ?_ ?_ ?_).1 <;> omega) | (with_reducible refine (mulR ?_ ?_ ?_ ?_).2 <;> omega) | (simp only [w32, w64] at *; omega) | (simp (disch := omega) only [w32_id, w64_id] at *; omega) | (simp (disch := omega) only [tdiv_nn, tmod_nn, w32_id, w64_id] at *; omega) | (subst_vars; simp [upZ] at *; omega) | (subst_vars; simp [upZ] at *; simp only [w32, w64] at *; omega))) | fail)) | (first | omega | ((try dsimp only); (first | omega | (simp (disch := omega) only [w32_id, w64_id]; omega) | (simp only [w32, w64]; omega) | (with_reducible refine (and32_le ?_ ?_).1 <;> omega) | (with_reducible refine (and32_le ?_ ?_).2 <;> omega) | (with_reducible refine (mulR ?_ ?_ ?_ ?_).1 <;> omega) | (with_reducible refine (mulR ?_ ?_ ?_ ?_).2 <;> omega) | (simp only [w32, w64] at *; omega) | (simp (disch := omega) only [w32_id, w64_id] at *; omega) | (simp (disch := omega) only [tdiv_nn, tmod_nn, w32_id, w64_id] at *; omega) | (subst_vars; simp [upZ] at *; omega) | (subst_vars; simp [upZ] at *; simp only [w32, w64] at *; omega))) | fail) | fail)))); (first | done | focus (first | (dsimp only; done) | ((try dsimp only); ((first | with_reducible assumption | exact hnbb | fail)))))); (first | omega | ((try dsimp only); (first | omega | (simp (disch := omega) only [w32_id, w64_id]; omega) | (simp only [w32, w64]; omega) | (with_reducible refine (and32_le ?_ ?_).1 <;> omega) | (with_reducible refine (and32_le ?_ ?_).2 <;> omega) | (with_reducible refine (mulR ?_ ?_ ?_ ?_).1 <;> omega) | (with_reducible refine (mulR ?_ ?_ ?_ ?_).2 <;> omega) | (simp only [w32, w64] at *; omega) | (simp (disch := omega) only [w32_id, w64_id] at *; omega) | (simp (disch := omega) only [tdiv_nn, tmod_nn, w32_id, w64_id] at *; omega) | (subst_vars; simp [upZ] at *; omega) | (subst_vars; simp [upZ] at *; simp only [w32, w64] at *; omega))) | fail))
          | with_reducible exact trivial
          | with_reducible assumption
          | ((fail_if_success (first | (with_reducible show _ ≤ _) | (with_reducible show _ = _) | (with_reducible show _ ∨ _) | (with_reducible show _ < _) | (with_reducible show G _ _ _ _))); (refine Exists.intro _ (Exists.intro _ (And.intro rfl (And.intro rfl ?_))); refine ⟨by assumption, by assumption, ?_⟩; (refine ⟨?_, trivial⟩; (first | done | focus (first | (dsimp only; done) | ((try dsimp only); ((first | exact q2 | with_reducible assumption | exact hnbb | fail))))))))
          | ((fail_if_success (first | (with_reducible show _ ≤ _) | (with_reducible show _ = _) | (with_reducible show _ ∨ _) | (with_reducible show _ < _) | (with_reducible show G _ _ _ _))); (refine Exists.intro _ (Exists.intro _ (And.intro rfl (And.intro rfl ?_))); refine ⟨by assumption, by assumption, ?_⟩; simp only [Nat.reduceAdd] at *; (refine ⟨?_, trivial⟩; (first | done | focus (first | (dsimp only; done) | ((try dsimp only); ((first | exact q2 | with_reducible assumption | exact hnbb | fail))))))))
          | omega
          | (dsimp only; omega)
          | decide
          | (show (0 : Int) < _; omega)
          | (show (0 : Int) < _; simp only [w64] at *; omega)
          | (simp only [w32, w64] at *; omega)
          | (first | omega | ((try dsimp only); (first | omega | (simp (disch := omega) only [w32_id, w64_id]; omega) | (simp only [w32, w64]; omega) | (with_reducible refine (and32_le ?_ ?_).1 <;> omega) | (with_reducible refine (and32_le ?_ ?_).2 <;> omega) | (with_reducible refine (mulR ?_ ?_ ?_ ?_).1 <;> omega) | (with_reducible refine (mulR ?_ ?_ ?_ ?_).2 <;> omega) | (simp only [w32, w64] at *; omega) | (simp (disch := omega) only [w32_id, w64_id] at *; omega) | (simp (disch := omega) only [tdiv_nn, tmod_nn, w32_id, w64_id] at *; omega) | (subst_vars; simp [upZ] at *; omega) | (subst_vars; simp [upZ] at *; simp only [w32, w64] at *; omega))) | fail)
          | ((with_reducible show swT _ _ _ _); exact trivial)
          | rfl
          | ((fail_if_success (first | (with_reducible show _ ≤ _) | (with_reducible show _ = _) | (with_reducible show _ ∨ _) | (with_reducible show _ < _) | (with_reducible show G _ _ _ _) | (with_reducible show Exists _))); exact trivial)
          | skip
  refine wq_run hG n R0 [65] 900 _ _ _ _ ?_
  repeat' (first
      | with_reducible rfl
      | ((with_reducible show NBS _); first | exact q0 | exact hnb)
      | ((with_reducible show NBF _); first | exact q1 | exact hnf)
      | ((with_reducible show FRR _); exact q0.1)
      | ((with_reducible show PLW _); exact q0.2.2.1)
      | ((with_reducible show ORD _ _); exact q0.2.2.2.2.1)
      | ((with_reducible show BM _ 70 2); exact q2.1)
      | ((with_reducible show BM _ 72 2); exact q2.2.1)
      | ((with_reducible show NBB _); exact q2)
      | refine And.intro ?_ ?_
      | with_reducible exact True.intro
      | ((with_reducible show _ = true); rfl)
      | ((with_reducible show recvG _ _); rfl)
      | ((with_reducible show CI _); first | with_reducible assumption | assumption)
      | (fail_if_success (first | (with_reducible show _ ≤ _) | (with_reducible show _ = _) | (with_reducible show _ ∨ _) | (with_reducible show _ < _) | (with_reducible show G _ _ _ _))
         first
         | show G _ _ _ _
         | (refine ld_bnd (by first | with_reducible assumption | assumption) rfl ?_; intro _ _ _ hld; (try dsimp only at hld); (try simp only [Nat.reduceAdd] at hld))
         | (refine st_k (by first | with_reducible assumption | assumption) (by first | with_reducible assumption | assumption) (by first | exact Or.inl (by decide) | exact Or.inr (by decide)) (fun lo hi hb => by first | (cases hb; done) | (cases hb; constructor <;> (first | omega | ((try dsimp only); (first | omega | (simp (disch := omega) only [w32_id, w64_id]; omega) | (simp only [w32, w64]; omega) | (with_reducible refine (and32_le ?_ ?_).1 <;> omega) | (with_reducible refine (and32_le ?_ ?_).2 <;> omega) | (with_reducible refine (mulR ?_ ?_ ?_ ?_).1 <;> omega) | (with_reducible refine (mulR ?_ ?_ ?_ ?_).2 <;> omega) | (simp only [w32, w64] at *; omega) | (simp (disch := omega) only [w32_id, w64_id] at *; omega) | (simp (disch := omega) only [tdiv_nn, tmod_nn, w32_id, w64_id] at *; omega) | (subst_vars; simp [upZ] at *; omega) | (subst_vars; simp [upZ] at *; simp only [w32, w64] at *; omega))) | fail))) ?_; intro Z' _ hkk; intro hld; (try dsimp only at hld); (try simp only [Nat.reduceAdd] at hld); intro hup; (try dsimp only at hup))
         | (refine st_k (by first | with_reducible assumption | assumption) (by first | with_reducible assumption | assumption) (by first | exact Or.inl (by decide) | exact Or.inr (by decide)) (fun lo hi hb => ?_) ?_; (cases hb; refine And.intro ?_ ?_))
         | refine st_same ?_
         | (intro (r : Option PV) σ' hq
            first
            | (obtain ⟨rfl, x, rfl, hp⟩ := hq; (try replace hp : _ ∧ _ := hp); (try dsimp only at hp); (try (have hnbb : NBB _ := hp.1)))
            | (obtain ⟨Z', (o : Nat), rfl, rfl, hI2, hk2, ⟨⟨hp, rfl⟩ | ⟨hp, rfl⟩, -⟩⟩ := hq <;> ((first | have hk3 := kp_to (by first | with_reducible assumption | assumption) (by rfl) hk2 | have hk3 := ks_to (by first | with_reducible assumption | assumption) (by rfl) hk2); (first | have hnbb := NBB_kp hk2 (by rfl) hnbb | have hnbb := NBB_kp (kp_of hk2) (by rfl) hnbb | skip); clear hk2))
            | (obtain ⟨Z', x, rfl, rfl, hI2, hk2, hp⟩ := hq; (try replace hp : _ ∧ _ := hp); (try dsimp only at hp); (first | have hk3 := kp_to (by first | with_reducible assumption | assumption) (by rfl) hk2 | have hk3 := ks_to (by first | with_reducible assumption | assumption) (by rfl) hk2); (first | have hnbb := NBB_kp hk2 (by rfl) hnbb | have hnbb := NBB_kp (kp_of hk2) (by rfl) hnbb | skip); clear hk2; (try (have hnbb : NBB _ := hp.1)))
            | (obtain ⟨Z', rfl, rfl, hI2, hk2, hp⟩ := hq; (try replace hp : _ ∧ _ := hp); (try dsimp only at hp); (first | have hk3 := kp_to (by first | with_reducible assumption | assumption) (by rfl) hk2 | have hk3 := ks_to (by first | with_reducible assumption | assumption) (by rfl) hk2); (first | have hnbb := NBB_kp hk2 (by rfl) hnbb | have hnbb := NBB_kp (kp_of hk2) (by rfl) hnbb | skip); clear hk2; (try (have hnbb : NBB _ := hp.1)))
            | (obtain ⟨rfl, rfl⟩ := hq)
            | (obtain ⟨Z', x, rfl, rfl, hI2, hk2⟩ := hq; have hkn := keeps_nil hk2; clear hk2; subst hkn)
            | (obtain ⟨Z', x, rfl, rfl, hI2, hk2⟩ := hq; (first | have hk3 := kp_to (by first | with_reducible assumption | assumption) (by rfl) hk2 | have hk3 := ks_to (by first | with_reducible assumption | assumption) (by rfl) hk2); (first | have hnbb := NBB_kp hk2 (by rfl) hnbb | have hnbb := NBB_kp (kp_of hk2) (by rfl) hnbb | skip); clear hk2)
            | (rcases hq with ⟨Z', rfl, rfl, hI2, hk2⟩ | ⟨Z', rfl, rfl, hI2, hk2⟩ <;> ((first | have hk3 := kp_to (by first | with_reducible assumption | assumption) (by rfl) hk2 | have hk3 := ks_to (by first | with_reducible assumption | assumption) (by rfl) hk2); (first | have hnbb := NBB_kp hk2 (by rfl) hnbb | have hnbb := NBB_kp (kp_of hk2) (by rfl) hnbb | skip); clear hk2))
            | (obtain ⟨Z', rfl, rfl, hI2, hk2⟩ := hq; (first | have hk3 := kp_to (by first | with_reducible assumption | assumption) (by rfl) hk2 | have hk3 := ks_to (by first | with_reducible assumption | assumption) (by rfl) hk2); (first | have hnbb := NBB_kp hk2 (by rfl) hnbb | have hnbb := NBB_kp (kp_of hk2) (by rfl) hnbb | skip); clear hk2))
         | (intro hc; (try simp only [cmp3_c] at hc); simp only [cmpI] at hc)
         | (show CI _; assumption)
         | intro (_ : Int)
         | intro (Z' : ZT)
         | intro (_ : CI _)
         | (intro (hkk : kp _ _ _))
         | intro (_ : _ ≤ _)
         | (intro (hup : _ = upZ _ _ _ _); (try dsimp only at hup))
         | (intro (hld : _ = _); (try dsimp only at hld); (try simp only [Nat.reduceAdd] at hld))
         | intro (_ : _ < _)
         | intro (_ : _ ≠ _)
         | intro (_ : _ ∨ _)))
  all_goals (have lp65 := loop 1000000)
  all_goals first
    | ((with_reducible show G 65 _ _ _); refine hG.2 65 _ [(0, vr 1), (1, vi a1), (2, vi a2), (3, vi a3), (4, vi _), (5, vi _)] _ _ rfl ?_)
    | ((fail_if_success (first | (with_reducible show _ ≤ _) | (with_reducible show _ = _) | (with_reducible show _ ∨ _) | (with_reducible show _ < _))); first | refine hG.2 65 _ [(0, vr 1), (1, vi a1), (2, vi a2), (3, vi a3), (4, vi _), (5, vi _)] _ _ rfl ?_)
    | skip
  all_goals first
    | with_reducible rfl
    | ((with_reducible show _ = _); rfl)
    | ((with_reducible show recvG _ _); rfl)
    | ((with_reducible show G 65 _ _ _); refine lp65 _ _ _ ?_ ?_ ?_ ?_; assumption; assumption; (refine ⟨?_, ?_, trivial⟩; (first | done | focus (first | (dsimp only; done) | ((try dsimp only); (first | omega | (refine ⟨?_, ?_⟩ <;> (first | omega | ((try dsimp only); (first | omega | (simp (disch := omega) only [w32_id, w64_id]; omega) | (simp only [w32, w64]; omega) | (with_reducible refine (and32_le ?_ ?_).1 <;> omega) | (with_reducible refine (and32_le ?_ ?_).2 <;> omega) | (with_reducible refine (mulR ?_ ?_ ?_ ?_).1 <;> omega) | (with_reducible refine (mulR ?_ ?_ ?_ ?_).2 <;> omega) | (simp only [w32, w64] at *; omega) | (simp (disch := omega) only [w32_id, w64_id] at *; omega) | (simp (disch := omega) only [tdiv_nn, tmod_nn, w32_id, w64_id] at *; omega) | (subst_vars; simp [upZ] at *; omega) | (subst_vars; simp [upZ] at *; simp only [w32, w64] at *; omega))) | fail)) | (first | omega | ((try dsimp only); (first | omega | (simp (disch := omega) only [w32_id, w64_id]; omega) | (simp only [w32, w64]; omega) | (with_reducible refine (and32_le ?_ ?_).1 <;> omega) | (with_reducible refine (and32_le ?_ ?_).2 <;> omega) | (with_reducible refine (mulR ?_ ?_ ?_ ?_).1 <;> omega) | (with_reducible refine (mulR ?_ ?_ ?_ ?_).2 <;> omega) | (simp only [w32, w64] at *; omega) | (simp (disch := omega) only [w32_id, w64_id] at *; omega) | (simp (disch := omega) only [tdiv_nn, tmod_nn, w32_id, w64_id] at *; omega) | (subst_vars; simp [upZ] at *; omega) | (subst_vars; simp [upZ] at *; simp only [w32, w64] at *; omega))) | fail) | fail)))); (first | done | focus (first | (dsimp only; done) | ((try dsimp only); ((first | with_reducible assumption | exact hnbb | fail)))))); (first | omega | ((try dsimp only); (first | omega | (simp (disch := omega) only [w32_id, w64_id]; omega) | (simp only [w32, w64]; omega) | (with_reducible refine (and32_le ?_ ?_).1 <;> omega) | (with_reducible refine (and32_le ?_ ?_).2 <;> omega) | (with_reducible refine (mulR ?_ ?_ ?_ ?_).1 <;> omega) | (with_reducible refine (mulR ?_ ?_ ?_ ?_).2 <;> omega) | (simp only [w32, w64] at *; omega) | (simp (disch := omega) only [w32_id, w64_id] at *; omega) | (simp (disch := omega) only [tdiv_nn, tmod_nn, w32_id, w64_id] at *; omega) | (subst_vars; simp [upZ] at *; omega) | (subst_vars; simp [upZ] at *; simp only [w32, w64] at *; omega))) | fail))
    | with_reducible exact trivial
    | with_reducible assumption
    | ((fail_if_success (first | (with_reducible show _ ≤ _) | (with_reducible show _ = _) | (with_reducible show _ ∨ _) | (with_reducible show _ < _) | (with_reducible show G _ _ _ _))); (refine Exists.intro _ (Exists.intro _ (And.intro rfl (And.intro rfl ?_))); refine ⟨by assumption, by assumption, ?_⟩; (refine ⟨?_, trivial⟩; (first | done | focus (first | (dsimp only; done) | ((try dsimp only); ((first | exact q2 | with_reducible assumption | exact hnbb | fail))))))))
    | ((fail_if_success (first | (with_reducible show _ ≤ _) | (with_reducible show _ = _) | (with_reducible show _ ∨ _) | (with_reducible show _ < _) | (with_reducible show G _ _ _ _))); (refine Exists.intro _ (Exists.intro _ (And.intro rfl (And.intro rfl ?_))); refine ⟨by assumption, by assumption, ?_⟩; simp only [Nat.reduceAdd] at *; (refine ⟨?_, trivial⟩; (first | done | focus (first | (dsimp only; done) | ((try dsimp only); ((first | exact q2 | with_reducible assumption | exact hnbb | fail))))))))
    | omega
    | (dsimp only; omega)
    | decide
    | (show (0 : Int) < _; omega)
    | (show (0 : Int) < _; simp only [w64] at *; omega)
    | (simp only [w32, w64] at *; omega)
    | (first | omega | ((try dsimp only); (first | omega | (simp (disch := omega) only [w32_id, w64_id]; omega) | (simp only [w32, w64]; omega) | (with_reducible refine (and32_le ?_ ?_).1 <;> omega) | (with_reducible refine (and32_le ?_ ?_).2 <;> omega) | (with_reducible refine (mulR ?_ ?_ ?_ ?_).1 <;> omega) | (with_reducible refine (mulR ?_ ?_ ?_ ?_).2 <;> omega) | (simp only [w32, w64] at *; omega) | (simp (disch := omega) only [w32_id, w64_id] at *; omega) | (simp (disch := omega) only [tdiv_nn, tmod_nn, w32_id, w64_id] at *; omega) | (subst_vars; simp [upZ] at *; omega) | (subst_vars; simp [upZ] at *; simp only [w32, w64] at *; omega))) | fail)
    | ((with_reducible show swT _ _ _ _); exact trivial)
    | rfl
    | ((fail_if_success (first | (with_reducible show _ ≤ _) | (with_reducible show _ = _) | (with_reducible show _ ∨ _) | (with_reducible show _ < _) | (with_reducible show G _ _ _ _) | (with_reducible show Exists _))); exact trivial)
    | skip
