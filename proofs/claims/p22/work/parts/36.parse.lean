/-! ===== the model's reader ===== -/
/-- the byte at a place, -1 behind the end -/
def BA (Z : ZT) (k : Int) : Int := if k < Z 100 5 then Z 102 k.toNat else -1
theorem BA_eq {Z Z' : ZT} (h1 : Z' 102 = Z 102) (h2 : Z' 100 5 = Z 100 5) (k : Int) : BA Z' k = BA Z k := by
  unfold BA
  rw [h1, h2]
theorem BA_kp {S : List Nat} {Z Z' : ZT} (h : kp S Z Z') (hS : (avo S 102 && (!(S.elem 100) && !(S.elem 6100))) = true) (k : Int) : BA Z' k = BA Z k := by
  rw [Bool.and_eq_true, Bool.and_eq_true] at hS
  obtain ⟨h1, h2, h3⟩ := hS
  exact BA_eq (kp_av h h1 (by decide)) (h 100 5 (by decide) (by simpa using h2) (by simpa using h3)) k
/-- the lines' letters are apart -/
def DL (Z : ZT) : Prop := ∀ i j : Nat, i < j → (j : Int) < Z 100 8 → Z 103 (4 + i) ≠ Z 103 (4 + j)
/-- a letter that has a line has a divisor -/
def E1 (Z : ZT) : Prop := ∀ l : Nat, l < 4 → 0 ≤ Z 104 l → 1 ≤ Z 107 l ∧ Z 107 l ≤ 1000
/-- the same of what is read just now too -/
def E8 (Z : ZT) : Prop := ∀ l : Nat, l < 8 → 0 ≤ Z 104 l → 1 ≤ Z 107 l ∧ Z 107 l ≤ 1000
def EN (Z : ZT) (n : Int) : Prop := ∀ l : Nat, (l : Int) < n → 0 ≤ Z 104 l → 1 ≤ Z 107 l ∧ Z 107 l ≤ 1000
theorem E8_1 {Z : ZT} (h : E8 Z) : E1 Z := fun l hl => h l (by omega)
theorem EN_1 {Z : ZT} {v : Int} (h : E1 Z) (hv : v ≤ 4) : EN Z v := fun l hl => h l (by omega)
theorem EN_8 {Z : ZT} {v : Int} (h : EN Z v) (hv : 8 ≤ v) : E8 Z := fun l hl => h l (by omega)
theorem EN_up {Z Z' : ZT} {v v' a : Int} (hu : Z' = upZ Z 104 v.toNat a) (h : EN Z v) (ha : a < 0) (h0 : 0 ≤ v) (hv : v' = v + 1) : EN Z' v' := by
  subst hv
  intro l hl h1
  rw [hu] at h1 ⊢
  by_cases hq : l = v.toNat
  · rw [hq, up_eq] at h1
    omega
  · rw [up_nk hq] at h1
    rw [up_ne (by decide)]
    exact h l (by omega) h1
theorem EN_eq {Z Z' : ZT} {v : Int} (h1 : Z' 104 = Z 104) (h2 : Z' 107 = Z 107) (h : EN Z v) : EN Z' v := by
  unfold EN
  rw [h1, h2]
  exact h
theorem E8_eq {Z Z' : ZT} (h1 : Z' 104 = Z 104) (h2 : Z' 107 = Z 107) (h : E8 Z) : E8 Z' := by
  unfold E8
  rw [h1, h2]
  exact h
theorem DL_eq {Z Z' : ZT} (h1 : Z' 103 = Z 103) (h2 : Z' 100 8 = Z 100 8) (h : DL Z) : DL Z' := by
  unfold DL
  rw [h1, h2]
  exact h
theorem E1_eq {Z Z' : ZT} (h1 : Z' 104 = Z 104) (h2 : Z' 107 = Z 107) (h : E1 Z) : E1 Z' := by
  unfold E1
  rw [h1, h2]
  exact h
theorem told_step {Z : ZT} {v3 v1 x : Int} (h : ∀ k : Nat, (k : Int) < v3 → Z 103 (4 + k) ≠ v1) (hx : x = Z 103 (w32 (4 + v3)).toNat) (hn : ¬ x = v1) (h0 : 0 ≤ v3) (h4 : v3 ≤ 3) : ∀ k : Nat, (k : Int) < w32 (v3 + 1) → Z 103 (4 + k) ≠ v1 := by
  intro k hk
  rw [w32_id (by omega) (by omega)] at hk
  by_cases hq : (k : Int) < v3
  · exact h k hq
  · have e : (w32 (4 + v3)).toNat = 4 + k := by
      rw [w32_id (by omega) (by omega)]
      omega
    rw [e] at hx
    rw [← hx]
    exact hn
theorem four_apart {a b c d e : Int} (ha : 0 ≤ a ∧ a ≤ 3) (hb : 0 ≤ b ∧ b ≤ 3) (hc : 0 ≤ c ∧ c ≤ 3) (hd : 0 ≤ d ∧ d ≤ 3) (he : 0 ≤ e ∧ e ≤ 3) (h1 : a ≠ b) (h2 : a ≠ c) (h3 : a ≠ d) (h4 : b ≠ c) (h5 : b ≠ d) (h6 : c ≠ d) (h7 : a ≠ e) (h8 : b ≠ e) (h9 : c ≠ e) (h10 : d ≠ e) : False := by
  have : a = 0 ∨ a = 1 ∨ a = 2 ∨ a = 3 := by omega
  have : b = 0 ∨ b = 1 ∨ b = 2 ∨ b = 3 := by omega
  rcases this with rfl | rfl | rfl | rfl <;> rcases this with rfl | rfl | rfl | rfl <;> omega
/-- a letter without a line: there are three lines at most -/
theorem rl_three {Z : ZT} {v1 : Int} (hI : CI Z) (hd : DL Z) (h1 : 0 ≤ v1 ∧ v1 ≤ 3) (h : ∀ k : Nat, (k : Int) < Z 100 8 → Z 103 (4 + k) ≠ v1) : Z 100 8 ≤ 3 := by
  have hr := hI 100 8 0 4 rfl
  by_cases hq : Z 100 8 = 4
  · have g := fun k => hI 103 k 0 3 rfl
    exact (four_apart (g 4) (g 5) (g 6) (g 7) h1 (hd 0 1 (by decide) (by omega)) (hd 0 2 (by decide) (by omega)) (hd 0 3 (by decide) (by omega)) (hd 1 2 (by decide) (by omega)) (hd 1 3 (by decide) (by omega)) (hd 2 3 (by decide) (by omega)) (h 0 (by omega)) (h 1 (by omega)) (h 2 (by omega)) (h 3 (by omega))).elim
  · omega
theorem fin_DL {Z : ZT} {r v1 a2 a3 a4 a5 a6 : Int} {j2 j3 j4 j5 j6 : Nat} (hI : CI Z) (h : DL Z) (hr : r = Z 100 8) (hv : 0 ≤ v1 ∧ v1 ≤ 3) (hn : ∀ k : Nat, (k : Int) < Z 100 8 → Z 103 (4 + k) ≠ v1) : DL (upZ (upZ (upZ (upZ (upZ (upZ (upZ Z 103 (w32 (4 + r)).toNat v1) 104 j2 a2) 105 j3 a3) 106 j4 a4) 107 j5 a5) 108 j6 a6) 100 8 (w32 (r + 1))) := by
  have h3 := rl_three hI h hv hn
  have h8 := hI 100 8 0 4 rfl
  subst hr
  have e : (w32 (4 + Z 100 8)).toNat = 4 + (Z 100 8).toNat := by
    rw [w32_id (by omega) (by omega)]
    omega
  intro i j hij hj
  have g : ∀ k, upZ (upZ (upZ (upZ (upZ (upZ (upZ Z 103 (w32 (4 + Z 100 8)).toNat v1) 104 j2 a2) 105 j3 a3) 106 j4 a4) 107 j5 a5) 108 j6 a6) 100 8 (w32 (Z 100 8 + 1)) 103 k = upZ Z 103 (w32 (4 + Z 100 8)).toNat v1 103 k := fun k => by simp [upZ]
  rw [up_eq, w32_id (by omega) (by omega)] at hj
  rw [g, g, e]
  by_cases hq : (j : Int) < Z 100 8
  · rw [up_nk (by omega), up_nk (by omega)]
    exact h i j hij hq
  · have e2 : j = (Z 100 8).toNat := by omega
    rw [up_nk (by omega), e2, up_eq]
    exact hn i (by omega)
def s_X11_byteAt : Sp := rPI 2 11 (fun as Z => match as with
    | [.inr (.inr a0), .inl a1] => ((a0 = 100)) ∧ ((0 ≤ a1 ∧ a1 ≤ 1000)) ∧ True
    | _ => False) (fun as Z (x : Int) => match as with
    | [.inr (.inr a0), .inl a1] => (x = BA Z a1) ∧ (x = -1 ∨ a1 < Z 100 5 ∧ a1 < 160) ∧ True
    | _ => False)
set_option maxRecDepth 100000 in
set_option maxHeartbeats 40000000 in
theorem c_X11_byteAt {l : Launch} {D : va_G} {cA : Nat → ClassId} : PM l D cA yX11_byteAt cX11_byteAt 2 (some .int) 0 0 s_X11_byteAt := by
  refine of_X11_byteAt  (fun as σ hwf hao hpre => ?_)
  obtain ⟨n, Z, R⟩ := σ
  obtain ⟨hR, hI, hpre⟩ := hpre
  obtain rfl : R = R0 := hR
  rcases as with _ | ⟨x | x | a0, _ | ⟨a1 | x | x, _ | ⟨v, t⟩⟩⟩ <;> first | exact (hpre : False).elim | skip
  obtain ⟨k1l, k1u⟩ : okI a1 := hao (vi a1) (by simp)
  obtain ⟨h0, h1, -⟩ := hpre
  have hk : kp ([]) Z Z := kp_refl
  refine ⟨Nat.le_of_ble_eq_true rfl, fun G hG => ?_⟩
  clear hao hwf
  obtain rfl := h0
  refine wq_run hG n R0 [] 900 _ _ _ _ ?_
  repeat' (first
      | with_reducible rfl
      | refine And.intro ?_ ?_
      | with_reducible exact True.intro
      | ((with_reducible show _ = true); rfl)
      | ((with_reducible show recvG _ _); rfl)
      | ((with_reducible show CI _); first | with_reducible assumption | assumption)
      | (fail_if_success (first | (with_reducible show _ ≤ _) | (with_reducible show _ = _) | (with_reducible show _ ∨ _) | (with_reducible show _ < _) | (with_reducible show G _ _ _ _))
         first
         | show G _ _ _ _
         | (refine ld_bnd (by first | with_reducible assumption | assumption) rfl ?_; intro _ _ _ hld; (try dsimp only at hld); (try simp only [Nat.reduceAdd] at hld))
         | (refine st_k (by first | with_reducible assumption | assumption) (by first | with_reducible assumption | assumption) (by first | exact Or.inl (by decide) | exact Or.inr (by decide)) (fun lo hi hb => by first | (cases hb; done) | (cases hb; constructor <;> (first | omega | ((try dsimp only); (first | omega | (simp (disch := omega) only [w32_id, w64_id]; omega) | (simp only [w32, w64]; omega) | (with_reducible refine (and32_le ?_ ?_).1 <;> omega) | (with_reducible refine (and32_le ?_ ?_).2 <;> omega) | (with_reducible refine (mulR ?_ ?_ ?_ ?_).1 <;> omega) | (with_reducible refine (mulR ?_ ?_ ?_ ?_).2 <;> omega) | (simp only [w32, w64] at *; omega) | (simp (disch := omega) only [w32_id, w64_id] at *; omega) | (simp (disch := omega) only [tdiv_nn, tmod_nn, w32_id, w64_id] at *; omega) | (subst_vars; simp [upZ] at *; omega) | (subst_vars; simp [upZ] at *; simp only [w32, w64] at *; omega))) | fail))) ?_; intro Z' _ hkk; intro hup; (try dsimp only at hup))
         | (refine st_k (by first | with_reducible assumption | assumption) (by first | with_reducible assumption | assumption) (by first | exact Or.inl (by decide) | exact Or.inr (by decide)) (fun lo hi hb => ?_) ?_; (cases hb; refine And.intro ?_ ?_))
         | refine st_same ?_
         | (intro (r : Option PV) σ' hq
            first
            | (obtain ⟨rfl, x, rfl, hp⟩ := hq; (try replace hp : _ ∧ _ := hp); (try dsimp only at hp))
            | (obtain ⟨Z', (o : Nat), rfl, rfl, hI2, hk2, ⟨⟨hp, rfl⟩ | ⟨hp, rfl⟩, -⟩⟩ := hq <;> ((first | have hk3 := kp_to (by first | with_reducible assumption | assumption) (by rfl) hk2 | have hk3 := ks_to (by first | with_reducible assumption | assumption) (by rfl) hk2); clear hk2))
            | (obtain ⟨Z', x, rfl, rfl, hI2, hk2, hp⟩ := hq; (try replace hp : _ ∧ _ := hp); (try dsimp only at hp); (first | have hk3 := kp_to (by first | with_reducible assumption | assumption) (by rfl) hk2 | have hk3 := ks_to (by first | with_reducible assumption | assumption) (by rfl) hk2); clear hk2)
            | (obtain ⟨Z', rfl, rfl, hI2, hk2, hp⟩ := hq; (try replace hp : _ ∧ _ := hp); (try dsimp only at hp); (first | have hk3 := kp_to (by first | with_reducible assumption | assumption) (by rfl) hk2 | have hk3 := ks_to (by first | with_reducible assumption | assumption) (by rfl) hk2); clear hk2)
            | (obtain ⟨rfl, rfl⟩ := hq)
            | (obtain ⟨Z', x, rfl, rfl, hI2, hk2⟩ := hq; have hkn := keeps_nil hk2; clear hk2; subst hkn)
            | (obtain ⟨Z', x, rfl, rfl, hI2, hk2⟩ := hq; (first | have hk3 := kp_to (by first | with_reducible assumption | assumption) (by rfl) hk2 | have hk3 := ks_to (by first | with_reducible assumption | assumption) (by rfl) hk2); clear hk2)
            | (rcases hq with ⟨Z', rfl, rfl, hI2, hk2⟩ | ⟨Z', rfl, rfl, hI2, hk2⟩ <;> ((first | have hk3 := kp_to (by first | with_reducible assumption | assumption) (by rfl) hk2 | have hk3 := ks_to (by first | with_reducible assumption | assumption) (by rfl) hk2); clear hk2))
            | (obtain ⟨Z', rfl, rfl, hI2, hk2⟩ := hq; (first | have hk3 := kp_to (by first | with_reducible assumption | assumption) (by rfl) hk2 | have hk3 := ks_to (by first | with_reducible assumption | assumption) (by rfl) hk2); clear hk2))
         | (intro hc; (try simp only [cmp3_c] at hc); simp only [cmpI] at hc)
         | (show CI _; assumption)
         | intro (_ : Int)
         | intro (Z' : ZT)
         | intro (_ : CI _)
         | (intro (hkk : kp _ _ _))
         | intro (_ : _ ≤ _)
         | (intro (hup : _ = upZ _ _ _ _); (try dsimp only at hup))
         | (intro (hld : _ = _); (try dsimp only at hld); (try simp only [Nat.reduceAdd] at hld))
         | intro (_ : _ < _)
         | intro (_ : _ ≠ _)
         | intro (_ : _ ∨ _)))
  all_goals first
    | with_reducible rfl
    | ((with_reducible show _ = _); rfl)
    | ((with_reducible show recvG _ _); rfl)
    | with_reducible exact trivial
    | with_reducible assumption
    | ((fail_if_success (first | (with_reducible show _ ≤ _) | (with_reducible show _ = _) | (with_reducible show _ ∨ _) | (with_reducible show _ < _) | (with_reducible show G _ _ _ _))); (refine Exists.intro _ (And.intro rfl ?_); (refine ⟨?_, ?_, trivial⟩; (first | done | focus (first | (dsimp only; done) | ((try dsimp only); (first | (unfold BA; rw [if_neg (by omega)]) | (unfold BA; rw [if_pos (by omega)]; subst_vars; rfl) | fail)))); (first | done | focus (first | (dsimp only; done) | ((try dsimp only); (first | omega | with_reducible assumption | with_reducible rfl | (first | omega | ((try dsimp only); (first | omega | (simp (disch := omega) only [w32_id, w64_id]; omega) | (simp only [w32, w64]; omega) | (with_reducible refine (and32_le ?_ ?_).1 <;> omega) | (with_reducible refine (and32_le ?_ ?_).2 <;> omega) | (with_reducible refine (mulR ?_ ?_ ?_ ?_).1 <;> omega) | (with_reducible refine (mulR ?_ ?_ ?_ ?_).2 <;> omega) | (simp only [w32, w64] at *; omega) | (simp (disch := omega) only [w32_id, w64_id] at *; omega) | (simp (disch := omega) only [tdiv_nn, tmod_nn, w32_id, w64_id] at *; omega) | (subst_vars; simp [upZ] at *; omega) | (subst_vars; simp [upZ] at *; simp only [w32, w64] at *; omega))) | fail) | fail)))))))
    | omega
    | (dsimp only; omega)
    | decide
    | (show (0 : Int) < _; omega)
    | (show (0 : Int) < _; simp only [w64] at *; omega)
    | (simp only [w32, w64] at *; omega)
    | (first | omega | ((try dsimp only); (first | omega | (simp (disch := omega) only [w32_id, w64_id]; omega) | (simp only [w32, w64]; omega) | (with_reducible refine (and32_le ?_ ?_).1 <;> omega) | (with_reducible refine (and32_le ?_ ?_).2 <;> omega) | (with_reducible refine (mulR ?_ ?_ ?_ ?_).1 <;> omega) | (with_reducible refine (mulR ?_ ?_ ?_ ?_).2 <;> omega) | (simp only [w32, w64] at *; omega) | (simp (disch := omega) only [w32_id, w64_id] at *; omega) | (simp (disch := omega) only [tdiv_nn, tmod_nn, w32_id, w64_id] at *; omega) | (subst_vars; simp [upZ] at *; omega) | (subst_vars; simp [upZ] at *; simp only [w32, w64] at *; omega))) | fail)
    | ((with_reducible show swT _ _ _ _); exact trivial)
    | rfl
    | skip
def s_X11_fails : Sp := rRV 2 11 (fun as Z => match as with
    | [.inr (.inr a0), .inl a1] => ((a0 = 100)) ∧ (True) ∧ True
    | _ => False) (fun as => match as with
    | [.inr (.inr a0), .inl a1] => [34100]
    | _ => []) (fun as Z Z' => match as with
    | [.inr (.inr a0), .inl a1] => (0 ≤ Z 100 33 ∧ Z' 100 33 = Z 100 33 ∨ Z 100 33 < 0 ∧ Z' 100 33 = a1) ∧ True
    | _ => False)
set_option maxRecDepth 100000 in
set_option maxHeartbeats 40000000 in
theorem c_X11_fails {l : Launch} {D : va_G} {cA : Nat → ClassId} : PM l D cA yX11_fails cX11_fails 2 none 0 0 s_X11_fails := by
  refine of_X11_fails  (fun as σ hwf hao hpre => ?_)
  obtain ⟨n, Z, R⟩ := σ
  obtain ⟨hR, hI, hpre⟩ := hpre
  obtain rfl : R = R0 := hR
  rcases as with _ | ⟨x | x | a0, _ | ⟨a1 | x | x, _ | ⟨v, t⟩⟩⟩ <;> first | exact (hpre : False).elim | skip
  obtain ⟨k1l, k1u⟩ : okI a1 := hao (vi a1) (by simp)
  obtain ⟨h0, h1, -⟩ := hpre
  have hk : kp ([34100]) Z Z := kp_refl
  refine ⟨Nat.le_of_ble_eq_true rfl, fun G hG => ?_⟩
  clear hao hwf
  obtain rfl := h0
  refine wq_run hG n R0 [] 900 _ _ _ _ ?_
  repeat' (first
      | with_reducible rfl
      | refine And.intro ?_ ?_
      | with_reducible exact True.intro
      | ((with_reducible show _ = true); rfl)
      | ((with_reducible show recvG _ _); rfl)
      | ((with_reducible show CI _); first | with_reducible assumption | assumption)
      | (fail_if_success (first | (with_reducible show _ ≤ _) | (with_reducible show _ = _) | (with_reducible show _ ∨ _) | (with_reducible show _ < _) | (with_reducible show G _ _ _ _))
         first
         | show G _ _ _ _
         | (refine ld_bnd (by first | with_reducible assumption | assumption) rfl ?_; intro (x : Int) _ _ hx; (try dsimp only at hx); subst hx)
         | (intro (x : Int) hx; (try dsimp only at hx); subst hx)
         | (refine ld_bnd (by first | with_reducible assumption | assumption) rfl ?_; intro _ _ _ hld; (try dsimp only at hld); (try simp only [Nat.reduceAdd] at hld))
         | (refine st_k (by first | with_reducible assumption | assumption) (by first | with_reducible assumption | assumption) (by first | exact Or.inl (by decide) | exact Or.inr (by decide)) (fun lo hi hb => by first | (cases hb; done) | (cases hb; constructor <;> (first | omega | ((try dsimp only); (first | omega | (simp (disch := omega) only [w32_id, w64_id]; omega) | (simp only [w32, w64]; omega) | (with_reducible refine (and32_le ?_ ?_).1 <;> omega) | (with_reducible refine (and32_le ?_ ?_).2 <;> omega) | (with_reducible refine (mulR ?_ ?_ ?_ ?_).1 <;> omega) | (with_reducible refine (mulR ?_ ?_ ?_ ?_).2 <;> omega) | (simp only [w32, w64] at *; omega) | (simp (disch := omega) only [w32_id, w64_id] at *; omega) | (simp (disch := omega) only [tdiv_nn, tmod_nn, w32_id, w64_id] at *; omega) | (subst_vars; simp [upZ] at *; omega) | (subst_vars; simp [upZ] at *; simp only [w32, w64] at *; omega))) | fail))) ?_; intro Z' _ hkk; intro hup; (try dsimp only at hup))
         | (refine st_k (by first | with_reducible assumption | assumption) (by first | with_reducible assumption | assumption) (by first | exact Or.inl (by decide) | exact Or.inr (by decide)) (fun lo hi hb => ?_) ?_; (cases hb; refine And.intro ?_ ?_))
         | refine st_same ?_
         | (intro (r : Option PV) σ' hq
            first
            | (obtain ⟨rfl, x, rfl, hp⟩ := hq; (try replace hp : _ ∧ _ := hp); (try dsimp only at hp))
            | (obtain ⟨Z', (o : Nat), rfl, rfl, hI2, hk2, ⟨⟨hp, rfl⟩ | ⟨hp, rfl⟩, -⟩⟩ := hq <;> ((first | have hk3 := kp_to (by first | with_reducible assumption | assumption) (by rfl) hk2 | have hk3 := ks_to (by first | with_reducible assumption | assumption) (by rfl) hk2); clear hk2))
            | (obtain ⟨Z', x, rfl, rfl, hI2, hk2, hp⟩ := hq; (try replace hp : _ ∧ _ := hp); (try dsimp only at hp); (first | have hk3 := kp_to (by first | with_reducible assumption | assumption) (by rfl) hk2 | have hk3 := ks_to (by first | with_reducible assumption | assumption) (by rfl) hk2); clear hk2)
            | (obtain ⟨Z', rfl, rfl, hI2, hk2, hp⟩ := hq; (try replace hp : _ ∧ _ := hp); (try dsimp only at hp); (first | have hk3 := kp_to (by first | with_reducible assumption | assumption) (by rfl) hk2 | have hk3 := ks_to (by first | with_reducible assumption | assumption) (by rfl) hk2); clear hk2)
            | (obtain ⟨rfl, rfl⟩ := hq)
            | (obtain ⟨Z', x, rfl, rfl, hI2, hk2⟩ := hq; have hkn := keeps_nil hk2; clear hk2; subst hkn)
            | (obtain ⟨Z', x, rfl, rfl, hI2, hk2⟩ := hq; (first | have hk3 := kp_to (by first | with_reducible assumption | assumption) (by rfl) hk2 | have hk3 := ks_to (by first | with_reducible assumption | assumption) (by rfl) hk2); clear hk2)
            | (rcases hq with ⟨Z', rfl, rfl, hI2, hk2⟩ | ⟨Z', rfl, rfl, hI2, hk2⟩ <;> ((first | have hk3 := kp_to (by first | with_reducible assumption | assumption) (by rfl) hk2 | have hk3 := ks_to (by first | with_reducible assumption | assumption) (by rfl) hk2); clear hk2))
            | (obtain ⟨Z', rfl, rfl, hI2, hk2⟩ := hq; (first | have hk3 := kp_to (by first | with_reducible assumption | assumption) (by rfl) hk2 | have hk3 := ks_to (by first | with_reducible assumption | assumption) (by rfl) hk2); clear hk2))
         | (intro hc; (try simp only [cmp3_c] at hc); simp only [cmpI] at hc)
         | (show CI _; assumption)
         | intro (_ : Int)
         | intro (Z' : ZT)
         | intro (_ : CI _)
         | (intro (hkk : kp _ _ _))
         | intro (_ : _ ≤ _)
         | (intro (hup : _ = upZ _ _ _ _); (try dsimp only at hup))
         | (intro (hld : _ = _); (try dsimp only at hld); (try simp only [Nat.reduceAdd] at hld))
         | intro (_ : _ < _)
         | intro (_ : _ ≠ _)
         | intro (_ : _ ∨ _)))
  all_goals first
    | with_reducible rfl
    | ((with_reducible show _ = _); rfl)
    | ((with_reducible show recvG _ _); rfl)
    | with_reducible exact trivial
    | with_reducible assumption
    | ((fail_if_success (first | (with_reducible show _ ≤ _) | (with_reducible show _ = _) | (with_reducible show _ ∨ _) | (with_reducible show _ < _) | (with_reducible show G _ _ _ _))); (refine Exists.intro _ (And.intro rfl (And.intro rfl ?_)); refine ⟨by assumption, by assumption, ?_⟩; (refine ⟨?_, trivial⟩; (first | done | focus (first | (dsimp only; done) | ((try dsimp only); (first | omega | with_reducible assumption | with_reducible rfl | (first | omega | ((try dsimp only); (first | omega | (simp (disch := omega) only [w32_id, w64_id]; omega) | (simp only [w32, w64]; omega) | (with_reducible refine (and32_le ?_ ?_).1 <;> omega) | (with_reducible refine (and32_le ?_ ?_).2 <;> omega) | (with_reducible refine (mulR ?_ ?_ ?_ ?_).1 <;> omega) | (with_reducible refine (mulR ?_ ?_ ?_ ?_).2 <;> omega) | (simp only [w32, w64] at *; omega) | (simp (disch := omega) only [w32_id, w64_id] at *; omega) | (simp (disch := omega) only [tdiv_nn, tmod_nn, w32_id, w64_id] at *; omega) | (subst_vars; simp [upZ] at *; omega) | (subst_vars; simp [upZ] at *; simp only [w32, w64] at *; omega))) | fail) | fail)))))))
    | omega
    | (dsimp only; omega)
    | decide
    | (show (0 : Int) < _; omega)
    | (show (0 : Int) < _; simp only [w64] at *; omega)
    | (simp only [w32, w64] at *; omega)
    | (first | omega | ((try dsimp only); (first | omega | (simp (disch := omega) only [w32_id, w64_id]; omega) | (simp only [w32, w64]; omega) | (with_reducible refine (and32_le ?_ ?_).1 <;> omega) | (with_reducible refine (and32_le ?_ ?_).2 <;> omega) | (with_reducible refine (mulR ?_ ?_ ?_ ?_).1 <;> omega) | (with_reducible refine (mulR ?_ ?_ ?_ ?_).2 <;> omega) | (simp only [w32, w64] at *; omega) | (simp (disch := omega) only [w32_id, w64_id] at *; omega) | (simp (disch := omega) only [tdiv_nn, tmod_nn, w32_id, w64_id] at *; omega) | (subst_vars; simp [upZ] at *; omega) | (subst_vars; simp [upZ] at *; simp only [w32, w64] at *; omega))) | fail)
    | ((with_reducible show swT _ _ _ _); exact trivial)
    | rfl
    | skip
