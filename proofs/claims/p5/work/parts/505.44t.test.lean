/-! ===== the reader, exactly: a term ===== -/
theorem nu_at {b b' : Int → Int} {x k a z w v : Int} (hb : b' = b) (h : x = 1 ∧ nuOK b' k a ∧ z = nuE b' k ∧ v = nuV b' k ∨ x = 0 ∧ ¬nuOK b' k a ∧ w = k) : ∀ q, q = k → (x = 1 ∧ nuOK b q a ∧ z = nuE b q ∧ v = nuV b q ∨ x = 0 ∧ ¬nuOK b q a ∧ w = q) := by
  rintro q rfl
  rw [← hb]
  exact h
theorem nm_at {b b' pl pl' : Int → Int} {x k z w v : Int} (hb : b' = b) (hl : pl' = pl) (h : x = 1 ∧ nmOK b' pl' k ∧ z = nmE b' k ∧ v = nmV b' k ∨ x = 0 ∧ ¬nmOK b' pl' k ∧ w = k) : ∀ q, q = k → (x = 1 ∧ nmOK b pl q ∧ z = nmE b q ∧ v = nmV b q ∨ x = 0 ∧ ¬nmOK b pl q ∧ w = q) := by
  rintro q rfl
  rw [← hb, ← hl]
  exact h
theorem fg_at {b b' : Int → Int} {x k : Int} (hb : b' = b) (h : x = 1 ∧ 48 ≤ b' k ∧ b' k ≤ 57 ∨ x = 0 ∧ ¬(48 ≤ b' k ∧ b' k ≤ 57)) : ∀ q, q = k → (x = 1 ∧ 48 ≤ b q ∧ b q ≤ 57 ∨ x = 0 ∧ ¬(48 ≤ b q ∧ b q ≤ 57)) := by
  rintro q rfl
  rw [← hb]
  exact h
theorem ah_at {b b' : Int → Int} {x k : Int} (hb : b' = b) (h : x = b' k) : ∀ q, q = k → x = b q := by
  rintro q rfl
  rw [← hb]
  exact h
/-- sign and number of a term -/
def tmHd (b : Int → Int) (p s q0 : Int) : Prop := b p = 45 ∧ s = -1 ∧ q0 = p + 1 ∨ b p = 43 ∧ s = 1 ∧ q0 = p + 1 ∨ (b p ≠ 45 ∧ b p ≠ 43) ∧ s = 1 ∧ q0 = p
theorem tm_hd {b : Int → Int} {p s q0 : Int} (h : tmHd b p s q0) : tmS b p = s ∧ tmP b p = q0 := by
  unfold tmS tmP
  rcases h with ⟨h, rfl, rfl⟩ | ⟨h, rfl, rfl⟩ | ⟨h, rfl, rfl⟩
  · rw [if_pos h, if_pos (Or.inl h)]
    exact ⟨rfl, rfl⟩
  · rw [if_neg (by omega), if_pos (Or.inr h)]
    exact ⟨rfl, rfl⟩
  · rw [if_neg h.1, if_neg (by omega)]
    exact ⟨rfl, rfl⟩
def tmNu (b : Int → Int) (q0 q1 f : Int) : Prop := (48 ≤ b q0 ∧ b q0 ≤ 57) ∧ nuOK b q0 999 ∧ q1 = nuE b q0 ∧ f = nuV b q0 ∨ ¬(48 ≤ b q0 ∧ b q0 ≤ 57) ∧ q1 = q0 ∧ f = 1
theorem tm_nu {b : Int → Int} {p s q0 q1 f : Int} (h : tmHd b p s q0) (hn : tmNu b q0 q1 f) : tmQ b p = q1 ∧ tmF b p = s * f ∧ ¬((48 ≤ b (tmP b p) ∧ b (tmP b p) ≤ 57) ∧ ¬nuOK b (tmP b p) 999) := by
  obtain ⟨e1, e2⟩ := tm_hd h
  unfold tmQ tmF
  rw [e1, e2]
  rcases hn with ⟨h1, h2, rfl, rfl⟩ | ⟨h1, rfl, rfl⟩
  · rw [if_pos h1, if_pos h1]
    exact ⟨rfl, rfl, fun g => g.2 h2⟩
  · rw [if_neg h1, if_neg h1]
    exact ⟨rfl, rfl, fun g => h1 g.1⟩
theorem tm_ok {b pl : Int → Int} {p s q0 q1 q2 f e m : Int} (h : tmHd b p s q0) (hn : tmNu b q0 q1 f) (h1 : nmOK b pl q1) (h2 : q2 = nmE b q1) (hd : b q2 = 46 ∧ nmOK b pl (q2 + 1) ∧ e = nmE b (q2 + 1) ∧ m = nmV b (q2 + 1) ∨ b q2 ≠ 46 ∧ e = q2 ∧ m = -1) : tmB b pl p = -1 ∧ tmE b p = e ∧ tmF b p = s * f ∧ tmN b p = nmV b q1 ∧ tmM b p = m := by
  obtain ⟨e1, e2, e3⟩ := tm_nu h hn
  have er : tmR b p = q2 := by
    unfold tmR
    rw [e1, h2]
  refine ⟨?_, ?_, e2, ?_, ?_⟩
  · unfold tmB
    rw [if_neg e3, e1, er, if_neg (fun g => g h1), if_neg (fun g => ?_)]
    rcases hd with hd | hd
    · exact g.2 hd.2.1
    · exact hd.1 g.1
  · unfold tmE
    rw [er]
    rcases hd with hd | hd
    · rw [if_pos hd.1, hd.2.2.1]
    · rw [if_neg hd.1, hd.2.1]
  · unfold tmN
    rw [e1]
  · unfold tmM
    rw [er]
    rcases hd with hd | hd
    · rw [if_pos hd.1, hd.2.2.2]
    · rw [if_neg hd.1, hd.2.2]
theorem tm_b1 {b pl : Int → Int} {p s q0 : Int} (h : tmHd b p s q0) (hn : 48 ≤ b q0 ∧ b q0 ≤ 57) (hb : ¬nuOK b q0 999) : tmB b pl p = q0 := by
  obtain ⟨e1, e2⟩ := tm_hd h
  unfold tmB
  rw [e2, if_pos ⟨hn, hb⟩]
theorem tm_b2 {b pl : Int → Int} {p s q0 q1 f : Int} (h : tmHd b p s q0) (hn : tmNu b q0 q1 f) (h1 : ¬nmOK b pl q1) : tmB b pl p = q1 := by
  obtain ⟨e1, e2, e3⟩ := tm_nu h hn
  unfold tmB
  rw [if_neg e3, e1, if_pos h1]
theorem tm_b3 {b pl : Int → Int} {p s q0 q1 q2 f : Int} (h : tmHd b p s q0) (hn : tmNu b q0 q1 f) (h1 : nmOK b pl q1) (h2 : q2 = nmE b q1) (hd : b q2 = 46) (h3 : ¬nmOK b pl (q2 + 1)) : tmB b pl p = q2 + 1 := by
  obtain ⟨e1, e2, e3⟩ := tm_nu h hn
  have er : tmR b p = q2 := by
    unfold tmR
    rw [e1, h2]
  unfold tmB
  rw [if_neg e3, e1, er, if_neg (fun g => g h1), if_pos ⟨hd, h3⟩]
theorem at_q {b : Int → Int} {p s q0 k : Int} {P : Int → Prop} (_ : tmHd b p s q0) (h : ∀ q, q = k → P q) (hk : q0 = k) : P q0 := h q0 hk
theorem at_n {b : Int → Int} {q0 q1 f k : Int} {P : Int → Prop} (_ : tmNu b q0 q1 f) (h : ∀ q, q = k → P q) (hk : q1 = k) : P q1 := h q1 hk
theorem tm_mk {b : Int → Int} {x y q z w v : Int} (hf : x = 1 ∧ 48 ≤ b q ∧ b q ≤ 57 ∨ x = 0 ∧ ¬(48 ≤ b q ∧ b q ≤ 57)) (h : y = 1 ∧ nuOK b q 999 ∧ z = nuE b q ∧ v = nuV b q ∨ y = 0 ∧ ¬nuOK b q 999 ∧ w = q) (hy : x = 1 ∧ y ≠ 0) : tmNu b q (nuE b q) (nuV b q) := by
  rcases h with h | h
  · exact Or.inl ⟨h.2.1.1, h.2.1, rfl, rfl⟩
  · exact absurd h.1 hy.2
theorem tm_no {b : Int → Int} {y q z w v : Int} (h : y = 1 ∧ nuOK b q 999 ∧ z = nuE b q ∧ v = nuV b q ∨ y = 0 ∧ ¬nuOK b q 999 ∧ w = q) (hy : y ≠ 1) : ¬nuOK b q 999 := by
  rcases h with h | h
  · exact absurd h.1 hy
  · exact h.2.1
theorem tm_nf {b : Int → Int} {x q : Int} (hf : x = 1 ∧ 48 ≤ b q ∧ b q ≤ 57 ∨ x = 0 ∧ ¬(48 ≤ b q ∧ b q ≤ 57)) (hx : x ≠ 1) : ¬(48 ≤ b q ∧ b q ≤ 57) := by
  rcases hf with h | h
  · exact absurd h.1 hx
  · exact h.2
theorem tm_no2 {b pl : Int → Int} {y q z w v : Int} (h : y = 1 ∧ nmOK b pl q ∧ z = nmE b q ∧ v = nmV b q ∨ y = 0 ∧ ¬nmOK b pl q ∧ w = q) (hy : y ≠ 1) : ¬nmOK b pl q := by
  rcases h with h | h
  · exact absurd h.1 hy
  · exact h.2.1
theorem tm_ye {b pl : Int → Int} {y q z w v : Int} (h : y = 1 ∧ nmOK b pl q ∧ z = nmE b q ∧ v = nmV b q ∨ y = 0 ∧ ¬nmOK b pl q ∧ w = q) (hy : y ≠ 0) : nmOK b pl q ∧ z = nmE b q ∧ v = nmV b q := by
  rcases h with h | h
  · exact h.2
  · exact absurd h.1 hy
theorem tm_d1 {b : Int → Int} {x a z q k : Int} (h : x = 1 ∧ b q = a ∧ z = q + 1 ∨ x = 0 ∧ b q ≠ a ∧ z = q) (hx : x ≠ 0) (hk : z = k) : q + 1 = k := by omega
theorem tm_d2 {b : Int → Int} {x a z q : Int} (h : x = 1 ∧ b q = a ∧ z = q + 1 ∨ x = 0 ∧ b q ≠ a ∧ z = q) (hx : x ≠ 0) : b q = a := by omega
theorem tm_d3 {b : Int → Int} {x a z q : Int} (h : x = 1 ∧ b q = a ∧ z = q + 1 ∨ x = 0 ∧ b q ≠ a ∧ z = q) (hx : x ≠ 1) : b q ≠ a := by omega
def s_X5_addTermX : Sp := rRV 4 5 (fun as Z => match as with
    | [.inr (.inr a0), .inl a1, .inl a2, .inl a3] => ((a0 = 8)) ∧ (True) ∧ (True) ∧ (True) ∧ (0 ≤ Z 8 1) ∧ (Z 8 1 ≤ 79) ∧ True
    | _ => False) (fun as => match as with
    | [.inr (.inr a0), .inl a1, .inl a2, .inl a3] => [2008, 15, 16, 17]
    | _ => []) (fun as Z Z' => match as with
    | [.inr (.inr a0), .inl a1, .inl a2, .inl a3] => (Z' 8 1 = Z 8 1 + 1) ∧ (Z' 15 = upZ Z 15 (Z 8 1).toNat a1 15) ∧ (Z' 16 = upZ Z 16 (Z 8 1).toNat a2 16) ∧ (Z' 17 = upZ Z 17 (Z 8 1).toNat a3 17) ∧ True
    | _ => False)
set_option maxRecDepth 100000 in
set_option maxHeartbeats 40000000 in
theorem c_X5_addTermX {l : Launch} {D : va_G} {cA : Nat → ClassId} : PM l D cA yX5_addTerm cX5_addTerm 4 none 0 0 s_X5_addTermX := by
  refine of_X5_addTerm  (fun as σ hwf hao hpre => ?_)
  obtain ⟨n, Z, R⟩ := σ
  obtain ⟨hR, hI, hpre⟩ := hpre
  obtain rfl : R = R0 := hR
  rcases as with _ | ⟨x | x | a0, _ | ⟨a1 | x | x, _ | ⟨a2 | x | x, _ | ⟨a3 | x | x, _ | ⟨v, t⟩⟩⟩⟩⟩ <;> first | exact (hpre : False).elim | skip
  obtain ⟨k1l, k1u⟩ : okI a1 := hao (vi a1) (by simp)
  obtain ⟨k2l, k2u⟩ : okI a2 := hao (vi a2) (by simp)
  obtain ⟨k3l, k3u⟩ : okI a3 := hao (vi a3) (by simp)
  obtain ⟨h0, h1, h2, h3, q0, q1, -⟩ := hpre
  have hk : kp ([2008, 15, 16, 17]) Z Z := kp_refl
  refine ⟨Nat.le_of_ble_eq_true rfl, fun G hG => ?_⟩
  clear hao hwf
  (try dsimp only at q0)
  (try dsimp only at q1)
  obtain rfl := h0
  have e15 : Z 15 = Z 15 := rfl
  have e16 : Z 16 = Z 16 := rfl
  have e17 : Z 17 = Z 17 := rfl
  refine wq_run hG n R0 [] 900 _ _ _ _ ?_
  repeat' (first
      | refine And.intro ?_ ?_
      | with_reducible rfl
      | (refine ld_bnd (by assumption) rfl ?_; intro (x : Int) _ _ hx; (try dsimp only at hx); subst hx)
      | (intro (x : Int) hx; (try dsimp only at hx); subst hx)
      | refine ld_bnd (by assumption) rfl ?_
      | refine st_k (by assumption) (by assumption) (by first | exact Or.inl (by decide) | exact Or.inr (by decide)) (fun lo hi hb => by first | (cases hb; done) | (cases hb; constructor <;> (first | omega | ((try dsimp only); (first | omega | (simp (disch := omega) only [w32_id, w64_id]; omega) | (simp only [w32, w64]; omega) | (with_reducible refine (and32_le ?_ ?_).1 <;> omega) | (with_reducible refine (and32_le ?_ ?_).2 <;> omega) | (with_reducible refine (mulR ?_ ?_ ?_ ?_).1 <;> omega) | (with_reducible refine (mulR ?_ ?_ ?_ ?_).2 <;> omega) | (simp only [w32, w64] at *; omega) | (simp (disch := omega) only [w32_id, w64_id] at *; omega) | (simp (disch := omega) only [tdiv_nn, tmod_nn, w32_id, w64_id] at *; omega) | (subst_vars; simp [upZ] at *; omega) | (subst_vars; simp [upZ] at *; simp only [w32, w64] at *; omega))) | fail))) ?_
      | (refine st_k (by assumption) (by assumption) (by first | exact Or.inl (by decide) | exact Or.inr (by decide)) (fun lo hi hb => ?_) ?_; (cases hb; refine And.intro ?_ ?_))
      | refine st_same ?_
      | (intro (r : Option PV) σ' hq
         first
         | (obtain ⟨rfl, rfl⟩ := hq)
         | (obtain ⟨rfl, x, rfl, hp⟩ := hq; (try replace hp : _ ∧ _ := hp); (try dsimp only at hp))
         | (obtain ⟨Z', (o : Nat), rfl, rfl, hI2, hk2, ⟨⟨hp, rfl⟩ | ⟨hp, rfl⟩, -⟩⟩ := hq <;> ((first | have hk3 := kp_to (by assumption) (by rfl) hk2 | have hk3 := ks_to (by assumption) (by rfl) hk2); (first | have e15 := (kp_av (o := 15) hk2 (by rfl) (by decide)).trans e15 | skip); (first | have e16 := (kp_av (o := 16) hk2 (by rfl) (by decide)).trans e16 | skip); (first | have e17 := (kp_av (o := 17) hk2 (by rfl) (by decide)).trans e17 | skip); clear hk2))
         | (obtain ⟨Z', x, rfl, rfl, hI2, hk2, hp⟩ := hq; (try replace hp : _ ∧ _ := hp); (try dsimp only at hp); (first | have hk3 := kp_to (by assumption) (by rfl) hk2 | have hk3 := ks_to (by assumption) (by rfl) hk2); (first | have e15 := (kp_av (o := 15) hk2 (by rfl) (by decide)).trans e15 | skip); (first | have e16 := (kp_av (o := 16) hk2 (by rfl) (by decide)).trans e16 | skip); (first | have e17 := (kp_av (o := 17) hk2 (by rfl) (by decide)).trans e17 | skip); clear hk2)
         | (obtain ⟨Z', x, rfl, rfl, hI2, hk2⟩ := hq; have hkn := keeps_nil hk2; clear hk2; subst hkn)
         | (obtain ⟨Z', x, rfl, rfl, hI2, hk2⟩ := hq; (first | have hk3 := kp_to (by assumption) (by rfl) hk2 | have hk3 := ks_to (by assumption) (by rfl) hk2); (first | have e15 := (kp_av (o := 15) hk2 (by rfl) (by decide)).trans e15 | skip); (first | have e16 := (kp_av (o := 16) hk2 (by rfl) (by decide)).trans e16 | skip); (first | have e17 := (kp_av (o := 17) hk2 (by rfl) (by decide)).trans e17 | skip); clear hk2)
         | (rcases hq with ⟨Z', rfl, rfl, hI2, hk2⟩ | ⟨Z', rfl, rfl, hI2, hk2⟩ <;> ((first | have hk3 := kp_to (by assumption) (by rfl) hk2 | have hk3 := ks_to (by assumption) (by rfl) hk2); (first | have e15 := (kp_av (o := 15) hk2 (by rfl) (by decide)).trans e15 | skip); (first | have e16 := (kp_av (o := 16) hk2 (by rfl) (by decide)).trans e16 | skip); (first | have e17 := (kp_av (o := 17) hk2 (by rfl) (by decide)).trans e17 | skip); clear hk2))
         | (obtain ⟨Z', rfl, rfl, hI2, hk2, hp⟩ := hq; (try replace hp : _ ∧ _ := hp); (try dsimp only at hp); (first | have hk3 := kp_to (by assumption) (by rfl) hk2 | have hk3 := ks_to (by assumption) (by rfl) hk2); (first | have e15 := (kp_av (o := 15) hk2 (by rfl) (by decide)).trans e15 | skip); (first | have e16 := (kp_av (o := 16) hk2 (by rfl) (by decide)).trans e16 | skip); (first | have e17 := (kp_av (o := 17) hk2 (by rfl) (by decide)).trans e17 | skip); clear hk2)
         | (obtain ⟨Z', rfl, rfl, hI2, hk2⟩ := hq; (first | have hk3 := kp_to (by assumption) (by rfl) hk2 | have hk3 := ks_to (by assumption) (by rfl) hk2); (first | have e15 := (kp_av (o := 15) hk2 (by rfl) (by decide)).trans e15 | skip); (first | have e16 := (kp_av (o := 16) hk2 (by rfl) (by decide)).trans e16 | skip); (first | have e17 := (kp_av (o := 17) hk2 (by rfl) (by decide)).trans e17 | skip); clear hk2))
      | (intro hc; (try simp only [cmp3_c] at hc); simp only [cmpI] at hc)
      | (show CI _; assumption)
      | intro (_ : Int)
      | intro (Z' : ZT)
      | intro (_ : CI _)
      | (intro (hkk : kp _ _ _))
      | intro (_ : _ ≤ _)
      | (intro (hup : _ = upZ _ _ _ _); (try dsimp only at hup); (first | have := (congrFun (congrFun hup 8) 1).trans (up_ne (by decide)) | have := (congrFun (congrFun hup 8) 1).trans (up_nk (by decide)) | skip); (try have e15 := (up_o hup (by decide)).trans e15); (try have e16 := (up_o hup (by decide)).trans e16); (try have e17 := (up_o hup (by decide)).trans e17); (first | have f15 : _ = upZ _ 15 _ _ 15 := congrFun hup 15 | have f15 := (up_o hup (by decide)).trans f15 | skip); (first | have f16 : _ = upZ _ 16 _ _ 16 := congrFun hup 16 | have f16 := (up_o hup (by decide)).trans f16 | skip); (first | have f17 : _ = upZ _ 17 _ _ 17 := congrFun hup 17 | have f17 := (up_o hup (by decide)).trans f17 | skip))
      | (intro (hld : _ = _); (try dsimp only at hld); (try simp only [Nat.reduceAdd] at hld))
      | intro (_ : _ < _)
      | intro (_ : _ ≠ _)
      | intro (_ : _ ∨ _))
  all_goals first
    | with_reducible rfl
    | ((with_reducible show _ = _); rfl)
    | ((with_reducible show recvG _ _); rfl)
    | with_reducible exact trivial
    | with_reducible assumption
    | omega
    | (dsimp only; omega)
    | decide
    | (show (0 : Int) < _; omega)
    | (show (0 : Int) < _; simp only [w64] at *; omega)
    | (simp only [w32, w64] at *; omega)
    | (refine Exists.intro _ (And.intro rfl (And.intro rfl ?_)); refine ⟨by assumption, by assumption, ?_⟩; (refine ⟨?_, ?_, ?_, ?_, trivial⟩; (first | done | focus (first | (dsimp only; done) | ((try dsimp only); (first | omega | with_reducible assumption | with_reducible rfl | (first | omega | ((try dsimp only); (first | omega | (simp (disch := omega) only [w32_id, w64_id]; omega) | (simp only [w32, w64]; omega) | (with_reducible refine (and32_le ?_ ?_).1 <;> omega) | (with_reducible refine (and32_le ?_ ?_).2 <;> omega) | (with_reducible refine (mulR ?_ ?_ ?_ ?_).1 <;> omega) | (with_reducible refine (mulR ?_ ?_ ?_ ?_).2 <;> omega) | (simp only [w32, w64] at *; omega) | (simp (disch := omega) only [w32_id, w64_id] at *; omega) | (simp (disch := omega) only [tdiv_nn, tmod_nn, w32_id, w64_id] at *; omega) | (subst_vars; simp [upZ] at *; omega) | (subst_vars; simp [upZ] at *; simp only [w32, w64] at *; omega))) | fail) | fail)))); (first | done | focus (first | (dsimp only; done) | ((try dsimp only); (first | omega | with_reducible assumption | with_reducible rfl | (first | omega | ((try dsimp only); (first | omega | (simp (disch := omega) only [w32_id, w64_id]; omega) | (simp only [w32, w64]; omega) | (with_reducible refine (and32_le ?_ ?_).1 <;> omega) | (with_reducible refine (and32_le ?_ ?_).2 <;> omega) | (with_reducible refine (mulR ?_ ?_ ?_ ?_).1 <;> omega) | (with_reducible refine (mulR ?_ ?_ ?_ ?_).2 <;> omega) | (simp only [w32, w64] at *; omega) | (simp (disch := omega) only [w32_id, w64_id] at *; omega) | (simp (disch := omega) only [tdiv_nn, tmod_nn, w32_id, w64_id] at *; omega) | (subst_vars; simp [upZ] at *; omega) | (subst_vars; simp [upZ] at *; simp only [w32, w64] at *; omega))) | fail) | fail)))); (first | done | focus (first | (dsimp only; done) | ((try dsimp only); (first | omega | with_reducible assumption | with_reducible rfl | (first | omega | ((try dsimp only); (first | omega | (simp (disch := omega) only [w32_id, w64_id]; omega) | (simp only [w32, w64]; omega) | (with_reducible refine (and32_le ?_ ?_).1 <;> omega) | (with_reducible refine (and32_le ?_ ?_).2 <;> omega) | (with_reducible refine (mulR ?_ ?_ ?_ ?_).1 <;> omega) | (with_reducible refine (mulR ?_ ?_ ?_ ?_).2 <;> omega) | (simp only [w32, w64] at *; omega) | (simp (disch := omega) only [w32_id, w64_id] at *; omega) | (simp (disch := omega) only [tdiv_nn, tmod_nn, w32_id, w64_id] at *; omega) | (subst_vars; simp [upZ] at *; omega) | (subst_vars; simp [upZ] at *; simp only [w32, w64] at *; omega))) | fail) | fail)))); (first | done | focus (first | (dsimp only; done) | ((try dsimp only); (first | omega | with_reducible assumption | with_reducible rfl | (first | omega | ((try dsimp only); (first | omega | (simp (disch := omega) only [w32_id, w64_id]; omega) | (simp only [w32, w64]; omega) | (with_reducible refine (and32_le ?_ ?_).1 <;> omega) | (with_reducible refine (and32_le ?_ ?_).2 <;> omega) | (with_reducible refine (mulR ?_ ?_ ?_ ?_).1 <;> omega) | (with_reducible refine (mulR ?_ ?_ ?_ ?_).2 <;> omega) | (simp only [w32, w64] at *; omega) | (simp (disch := omega) only [w32_id, w64_id] at *; omega) | (simp (disch := omega) only [tdiv_nn, tmod_nn, w32_id, w64_id] at *; omega) | (subst_vars; simp [upZ] at *; omega) | (subst_vars; simp [upZ] at *; simp only [w32, w64] at *; omega))) | fail) | fail))))))
    | (first | omega | ((try dsimp only); (first | omega | (simp (disch := omega) only [w32_id, w64_id]; omega) | (simp only [w32, w64]; omega) | (with_reducible refine (and32_le ?_ ?_).1 <;> omega) | (with_reducible refine (and32_le ?_ ?_).2 <;> omega) | (with_reducible refine (mulR ?_ ?_ ?_ ?_).1 <;> omega) | (with_reducible refine (mulR ?_ ?_ ?_ ?_).2 <;> omega) | (simp only [w32, w64] at *; omega) | (simp (disch := omega) only [w32_id, w64_id] at *; omega) | (simp (disch := omega) only [tdiv_nn, tmod_nn, w32_id, w64_id] at *; omega) | (subst_vars; simp [upZ] at *; omega) | (subst_vars; simp [upZ] at *; simp only [w32, w64] at *; omega))) | fail)
    | ((with_reducible show swT _ _ _ _); exact trivial)
    | rfl
    | skip
def s_X6_readTermX : Sp := rRI 1 6 (fun as Z => match as with
    | [.inr (.inr a0)] => ((a0 = 6)) ∧ (0 ≤ Z 8 1) ∧ (Z 8 1 ≤ 79) ∧ (BYT (bC Z)) ∧ True
    | _ => False) (fun as => match as with
    | [.inr (.inr a0)] => [4006, 5006, 6006, 2008, 15, 16, 17]
    | _ => []) (fun as Z (x : Int) Z' => match as with
    | [.inr (.inr a0)] => (x = 1 ∧ tmB (bC Z) (plC Z) (Z 6 3) = -1 ∧ Z' 6 3 = tmE (bC Z) (Z 6 3) ∧ Z' 8 1 = Z 8 1 + 1 ∧ Z' 15 = upZ Z 15 (Z 8 1).toNat (tmF (bC Z) (Z 6 3)) 15 ∧ Z' 16 = upZ Z 16 (Z 8 1).toNat (tmN (bC Z) (Z 6 3)) 16 ∧ Z' 17 = upZ Z 17 (Z 8 1).toNat (tmM (bC Z) (Z 6 3)) 17 ∨ x = 0 ∧ tmB (bC Z) (plC Z) (Z 6 3) ≠ -1 ∧ Z' 6 4 = tmB (bC Z) (plC Z) (Z 6 3)) ∧ True
    | _ => False)
set_option maxRecDepth 100000 in
set_option maxHeartbeats 40000000 in
theorem c_X6_readTermX {l : Launch} {D : va_G} {cA : Nat → ClassId} : PM l D cA yX6_readTerm cX6_readTerm 5 (some .boolean) 3 64 s_X6_readTermX := by
  refine of_X6_readTerm (c_X6_ahead) ⟨rfl, rfl⟩ (c_X6_isFigureX) ⟨rfl, rfl⟩ (c_X6_readNumberX) ⟨rfl, rfl⟩ (c_X6_readNameX) ⟨rfl, rfl⟩ (c_X6_passX) ⟨rfl, rfl⟩ (c_X5_addTermX) ⟨rfl, rfl⟩ (fun as σ hwf hao hpre => ?_)
  obtain ⟨n, Z, R⟩ := σ
  obtain ⟨hR, hI, hpre⟩ := hpre
  obtain rfl : R = R0 := hR
  rcases as with _ | ⟨x | x | a0, _ | ⟨v, t⟩⟩ <;> first | exact (hpre : False).elim | skip
  obtain ⟨h0, q0, q1, q2, -⟩ := hpre
  have hk : kp ([4006, 5006, 6006, 2008, 15, 16, 17]) Z Z := kp_refl
  refine ⟨Nat.le_of_ble_eq_true rfl, fun G hG => ?_⟩
  clear hao hwf
  (try dsimp only at q0)
  (try dsimp only at q1)
  (try dsimp only at q2)
  obtain rfl := h0
  have hb : bC Z = bC Z := rfl
  have hl : plC Z = plC Z := rfl
  refine wq_run hG n R0 [] 900 _ _ _ _ ?_
  repeat' (first
      | refine And.intro ?_ ?_
      | with_reducible rfl
      | refine ld_bnd (by assumption) rfl ?_
      | refine st_k (by assumption) (by assumption) (by first | exact Or.inl (by decide) | exact Or.inr (by decide)) (fun lo hi hb => by first | (cases hb; done) | (cases hb; constructor <;> (first | omega | ((try dsimp only); (first | omega | (simp (disch := omega) only [w32_id, w64_id]; omega) | (simp only [w32, w64]; omega) | (with_reducible refine (and32_le ?_ ?_).1 <;> omega) | (with_reducible refine (and32_le ?_ ?_).2 <;> omega) | (with_reducible refine (mulR ?_ ?_ ?_ ?_).1 <;> omega) | (with_reducible refine (mulR ?_ ?_ ?_ ?_).2 <;> omega) | (simp only [w32, w64] at *; omega) | (simp (disch := omega) only [w32_id, w64_id] at *; omega) | (simp (disch := omega) only [tdiv_nn, tmod_nn, w32_id, w64_id] at *; omega) | (subst_vars; simp [upZ] at *; omega) | (subst_vars; simp [upZ] at *; simp only [w32, w64] at *; omega))) | fail))) ?_
      | (refine st_k (by assumption) (by assumption) (by first | exact Or.inl (by decide) | exact Or.inr (by decide)) (fun lo hi hb => ?_) ?_; (cases hb; refine And.intro ?_ ?_))
      | refine st_same ?_
      | (intro (r : Option PV) σ' hq
         first
         | (obtain ⟨rfl, rfl⟩ := hq)
         | (obtain ⟨rfl, x, rfl, hp⟩ := hq; (try replace hp : _ ∧ _ := hp); (try dsimp only at hp); (first | (have hah := AH_bC hb hp.1) | (have hfg := fg_at hb hp.1) | (have hnu := nu_at hb0 hp.1; have hr := hI2 6 3 0 160 rfl) | (have hz := hnA; clear hz; have hnB := nm_at hb0 hl0 hp.1; have hr := hI2 6 3 0 160 rfl) | (have hnA := nm_at hb0 hl0 hp.1; have hr := hI2 6 3 0 160 rfl) | (rw [hb0] at hp; have hps := ps_at hp.1) | (have ad1 := hp.1; have ad2 := hp.2.1; have ad3 := hp.2.2.1; have ad4 := hp.2.2.2.1) | skip))
         | (obtain ⟨Z', (o : Nat), rfl, rfl, hI2, hk2, ⟨⟨hp, rfl⟩ | ⟨hp, rfl⟩, -⟩⟩ := hq <;> ((first | have hk3 := kp_to (by assumption) (by rfl) hk2 | have hk3 := ks_to (by assumption) (by rfl) hk2); (try have hb0 := hb); (try have hl0 := hl); (try have hb := (bC_kp hk2 (by rfl)).trans hb); (try have hl := (pl_kp hk2 (by rfl)).trans hl); (first | have := kpF 6 3 hk2 (by rfl) | have := ksF 6 3 hk2 (by rfl) | skip); (try dsimp only at this); (first | have := kpF 6 4 hk2 (by rfl) | have := ksF 6 4 hk2 (by rfl) | skip); (try dsimp only at this); (first | have := kpF 6 5 hk2 (by rfl) | have := ksF 6 5 hk2 (by rfl) | skip); (try dsimp only at this); (first | have := kpF 8 1 hk2 (by rfl) | have := ksF 8 1 hk2 (by rfl) | skip); (try dsimp only at this); clear hk2))
         | (obtain ⟨Z', x, rfl, rfl, hI2, hk2, hp⟩ := hq; (try replace hp : _ ∧ _ := hp); (try dsimp only at hp); (first | have hk3 := kp_to (by assumption) (by rfl) hk2 | have hk3 := ks_to (by assumption) (by rfl) hk2); (try have hb0 := hb); (try have hl0 := hl); (try have hb := (bC_kp hk2 (by rfl)).trans hb); (try have hl := (pl_kp hk2 (by rfl)).trans hl); (first | have := kpF 6 3 hk2 (by rfl) | have := ksF 6 3 hk2 (by rfl) | skip); (try dsimp only at this); (first | have := kpF 6 4 hk2 (by rfl) | have := ksF 6 4 hk2 (by rfl) | skip); (try dsimp only at this); (first | have := kpF 6 5 hk2 (by rfl) | have := ksF 6 5 hk2 (by rfl) | skip); (try dsimp only at this); (first | have := kpF 8 1 hk2 (by rfl) | have := ksF 8 1 hk2 (by rfl) | skip); (try dsimp only at this); clear hk2; (first | (have hah := AH_bC hb hp.1) | (have hfg := fg_at hb hp.1) | (have hnu := nu_at hb0 hp.1; have hr := hI2 6 3 0 160 rfl) | (have hz := hnA; clear hz; have hnB := nm_at hb0 hl0 hp.1; have hr := hI2 6 3 0 160 rfl) | (have hnA := nm_at hb0 hl0 hp.1; have hr := hI2 6 3 0 160 rfl) | (rw [hb0] at hp; have hps := ps_at hp.1) | (have ad1 := hp.1; have ad2 := hp.2.1; have ad3 := hp.2.2.1; have ad4 := hp.2.2.2.1) | skip))
         | (obtain ⟨Z', x, rfl, rfl, hI2, hk2⟩ := hq; have hkn := keeps_nil hk2; clear hk2; subst hkn)
         | (obtain ⟨Z', x, rfl, rfl, hI2, hk2⟩ := hq; (first | have hk3 := kp_to (by assumption) (by rfl) hk2 | have hk3 := ks_to (by assumption) (by rfl) hk2); (try have hb0 := hb); (try have hl0 := hl); (try have hb := (bC_kp hk2 (by rfl)).trans hb); (try have hl := (pl_kp hk2 (by rfl)).trans hl); (first | have := kpF 6 3 hk2 (by rfl) | have := ksF 6 3 hk2 (by rfl) | skip); (try dsimp only at this); (first | have := kpF 6 4 hk2 (by rfl) | have := ksF 6 4 hk2 (by rfl) | skip); (try dsimp only at this); (first | have := kpF 6 5 hk2 (by rfl) | have := ksF 6 5 hk2 (by rfl) | skip); (try dsimp only at this); (first | have := kpF 8 1 hk2 (by rfl) | have := ksF 8 1 hk2 (by rfl) | skip); (try dsimp only at this); clear hk2)
         | (rcases hq with ⟨Z', rfl, rfl, hI2, hk2⟩ | ⟨Z', rfl, rfl, hI2, hk2⟩ <;> ((first | have hk3 := kp_to (by assumption) (by rfl) hk2 | have hk3 := ks_to (by assumption) (by rfl) hk2); (try have hb0 := hb); (try have hl0 := hl); (try have hb := (bC_kp hk2 (by rfl)).trans hb); (try have hl := (pl_kp hk2 (by rfl)).trans hl); (first | have := kpF 6 3 hk2 (by rfl) | have := ksF 6 3 hk2 (by rfl) | skip); (try dsimp only at this); (first | have := kpF 6 4 hk2 (by rfl) | have := ksF 6 4 hk2 (by rfl) | skip); (try dsimp only at this); (first | have := kpF 6 5 hk2 (by rfl) | have := ksF 6 5 hk2 (by rfl) | skip); (try dsimp only at this); (first | have := kpF 8 1 hk2 (by rfl) | have := ksF 8 1 hk2 (by rfl) | skip); (try dsimp only at this); clear hk2))
         | (obtain ⟨Z', rfl, rfl, hI2, hk2, hp⟩ := hq; (try replace hp : _ ∧ _ := hp); (try dsimp only at hp); (first | have hk3 := kp_to (by assumption) (by rfl) hk2 | have hk3 := ks_to (by assumption) (by rfl) hk2); (try have hb0 := hb); (try have hl0 := hl); (try have hb := (bC_kp hk2 (by rfl)).trans hb); (try have hl := (pl_kp hk2 (by rfl)).trans hl); (first | have := kpF 6 3 hk2 (by rfl) | have := ksF 6 3 hk2 (by rfl) | skip); (try dsimp only at this); (first | have := kpF 6 4 hk2 (by rfl) | have := ksF 6 4 hk2 (by rfl) | skip); (try dsimp only at this); (first | have := kpF 6 5 hk2 (by rfl) | have := ksF 6 5 hk2 (by rfl) | skip); (try dsimp only at this); (first | have := kpF 8 1 hk2 (by rfl) | have := ksF 8 1 hk2 (by rfl) | skip); (try dsimp only at this); clear hk2; (first | (have hah := AH_bC hb hp.1) | (have hfg := fg_at hb hp.1) | (have hnu := nu_at hb0 hp.1; have hr := hI2 6 3 0 160 rfl) | (have hz := hnA; clear hz; have hnB := nm_at hb0 hl0 hp.1; have hr := hI2 6 3 0 160 rfl) | (have hnA := nm_at hb0 hl0 hp.1; have hr := hI2 6 3 0 160 rfl) | (rw [hb0] at hp; have hps := ps_at hp.1) | (have ad1 := hp.1; have ad2 := hp.2.1; have ad3 := hp.2.2.1; have ad4 := hp.2.2.2.1) | skip))
         | (obtain ⟨Z', rfl, rfl, hI2, hk2⟩ := hq; (first | have hk3 := kp_to (by assumption) (by rfl) hk2 | have hk3 := ks_to (by assumption) (by rfl) hk2); (try have hb0 := hb); (try have hl0 := hl); (try have hb := (bC_kp hk2 (by rfl)).trans hb); (try have hl := (pl_kp hk2 (by rfl)).trans hl); (first | have := kpF 6 3 hk2 (by rfl) | have := ksF 6 3 hk2 (by rfl) | skip); (try dsimp only at this); (first | have := kpF 6 4 hk2 (by rfl) | have := ksF 6 4 hk2 (by rfl) | skip); (try dsimp only at this); (first | have := kpF 6 5 hk2 (by rfl) | have := ksF 6 5 hk2 (by rfl) | skip); (try dsimp only at this); (first | have := kpF 8 1 hk2 (by rfl) | have := ksF 8 1 hk2 (by rfl) | skip); (try dsimp only at this); clear hk2))
      | (intro hc; (try simp only [cmp3_c] at hc); simp only [cmpI] at hc)
      | (show CI _; assumption)
      | intro (_ : Int)
      | intro (Z' : ZT)
      | intro (_ : CI _)
      | (intro (hkk : kp _ _ _))
      | intro (_ : _ ≤ _)
      | (intro (hup : _ = upZ _ _ _ _); (try dsimp only at hup); (first | have := (congrFun (congrFun hup 6) 3).trans (up_ne (by decide)) | have := (congrFun (congrFun hup 6) 3).trans (up_nk (by decide)) | skip); (first | have := (congrFun (congrFun hup 6) 4).trans (up_ne (by decide)) | have := (congrFun (congrFun hup 6) 4).trans (up_nk (by decide)) | skip); (first | have := (congrFun (congrFun hup 6) 5).trans (up_ne (by decide)) | have := (congrFun (congrFun hup 6) 5).trans (up_nk (by decide)) | skip); (first | have := (congrFun (congrFun hup 8) 1).trans (up_ne (by decide)) | have := (congrFun (congrFun hup 8) 1).trans (up_nk (by decide)) | skip); (try have hb := (bC_up hup (by decide) (by intro hz; first | exact absurd hz (by decide) | decide | omega)).trans hb); (try have hl := (pl_up hup (by decide)).trans hl))
      | (intro (hld : _ = _); (try dsimp only at hld); (try simp only [Nat.reduceAdd] at hld))
      | intro (_ : _ < _)
      | intro (_ : _ ≠ _)
      | intro (_ : _ ∨ _))
  all_goals first
    | with_reducible rfl
    | ((with_reducible show _ = _); rfl)
    | ((with_reducible show recvG _ _); rfl)
    | with_reducible exact trivial
    | with_reducible assumption
    | ((with_reducible show BYT _); rw [hb]; exact q2)
    | omega
    | (dsimp only; omega)
    | decide
    | (show (0 : Int) < _; omega)
    | (show (0 : Int) < _; simp only [w64] at *; omega)
    | (simp only [w32, w64] at *; omega)
    | (refine Exists.intro _ (Exists.intro _ (And.intro rfl (And.intro rfl ?_))); refine ⟨by assumption, by assumption, ?_⟩; (refine ⟨?_, trivial⟩; (first | done | focus (first | (dsimp only; done) | ((try dsimp only); ((first | ((first | (have hh : tmHd (bC Z) (Z 6 3) (-1) (Z 6 3 + 1) := Or.inl ⟨by omega, rfl, rfl⟩) | (have hh : tmHd (bC Z) (Z 6 3) 1 (Z 6 3 + 1) := Or.inr (Or.inl ⟨by omega, rfl, rfl⟩)) | (have hh : tmHd (bC Z) (Z 6 3) 1 (Z 6 3) := Or.inr (Or.inr ⟨⟨by omega, by omega⟩, rfl, rfl⟩))); have hf := at_q hh hfg (by omega); (first | (have hN := at_q hh hnu (by omega); (first | (have hn := tm_mk hf hN (by omega)) | (refine Or.inr ⟨by omega, ?_, ?_⟩ <;> rw [tm_b1 hh (by omega) (tm_no hN (by omega))] <;> omega))) | (have hn : tmNu _ _ _ 1 := Or.inr ⟨tm_nf hf (by omega), rfl, rfl⟩)); (first | done | skip); have hA := at_n hn hnA (by omega); (first | (refine Or.inr ⟨by omega, ?_, ?_⟩ <;> rw [tm_b2 hh hn (tm_no2 hA (by omega))] <;> omega) | (have hA1 := tm_ye hA (by omega); have hd := hps _ hA1.2.1.symm; (first | (have hB := hnB _ (tm_d1 hd (by omega) (by omega)); (first | (refine Or.inr ⟨by omega, ?_, ?_⟩ <;> rw [tm_b3 hh hn hA1.1 rfl (tm_d2 hd (by omega)) (tm_no2 hB (by omega))] <;> omega) | (have hB1 := tm_ye hB (by omega); have g := tm_ok hh hn hA1.1 rfl (Or.inl ⟨tm_d2 hd (by omega), hB1.1, rfl, rfl⟩); refine Or.inl ⟨by omega, g.1, ?_, ?_, ?_, ?_, ?_⟩; (first | (rw [g.2.1]; omega) | fail); omega; (rw [g.2.2.1]; first | (rw [ad2]; done) | (rw [ad2]; congr 1; omega) | skip); (rw [g.2.2.2.1]; first | (rw [ad3]; done) | (rw [ad3]; congr 1; omega) | skip); (rw [g.2.2.2.2]; first | (rw [ad4]; done) | (rw [ad4]; congr 1; omega) | skip)))) | (have g := tm_ok hh hn hA1.1 rfl (Or.inr ⟨tm_d3 hd (by omega), rfl, rfl⟩); refine Or.inl ⟨by omega, g.1, ?_, ?_, ?_, ?_, ?_⟩; (first | (rw [g.2.1]; omega) | fail); omega; (rw [g.2.2.1]; first | (rw [ad2]; done) | (rw [ad2]; congr 1; omega) | skip); (rw [g.2.2.2.1]; first | (rw [ad3]; done) | (rw [ad3]; congr 1; omega) | skip); (rw [g.2.2.2.2]; first | (rw [ad4]; done) | (rw [ad4]; congr 1; omega) | skip)))))) | fail)))))))
    | (first | omega | ((try dsimp only); (first | omega | (simp (disch := omega) only [w32_id, w64_id]; omega) | (simp only [w32, w64]; omega) | (with_reducible refine (and32_le ?_ ?_).1 <;> omega) | (with_reducible refine (and32_le ?_ ?_).2 <;> omega) | (with_reducible refine (mulR ?_ ?_ ?_ ?_).1 <;> omega) | (with_reducible refine (mulR ?_ ?_ ?_ ?_).2 <;> omega) | (simp only [w32, w64] at *; omega) | (simp (disch := omega) only [w32_id, w64_id] at *; omega) | (simp (disch := omega) only [tdiv_nn, tmod_nn, w32_id, w64_id] at *; omega) | (subst_vars; simp [upZ] at *; omega) | (subst_vars; simp [upZ] at *; simp only [w32, w64] at *; omega))) | fail)
    | ((with_reducible show swT _ _ _ _); exact trivial)
    | rfl
    | skip
