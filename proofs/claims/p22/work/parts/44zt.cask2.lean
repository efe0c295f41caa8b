/-! ===== numbers: sum, second, judge, the class's ===== -/
theorem w64_l {a b : Int} : w64 (w64 a + b) = w64 (a + b) := by
  unfold w64
  omega
theorem w64_r {a b : Int} : w64 (a + w64 b) = w64 (a + b) := by
  unfold w64
  omega
def cvV (v : Int) : Int := if v = 2000000000 then 0 else v
/-- the numbers of the first n, a VOID as 0 -/
def csF (f : Nat → Int) : Nat → Int
  | 0 => 0
  | n + 1 => csF f n + cvV (f n)
theorem csF_eq {f g : Nat → Int} : ∀ n : Nat, (∀ k : Nat, k < n → f k = g k) → csF f n = csF g n
  | 0, _ => rfl
  | n + 1, h => by
    show csF f n + cvV (f n) = csF g n + cvV (g n)
    rw [csF_eq n (fun k hk => h k (by omega)), h n (by omega)]
theorem csF_add (f : Nat → Int) (m : Nat) : ∀ n : Nat, csF f (m + n) = csF f m + csF (fun k => f (m + k)) n
  | 0 => by
    show csF f m = csF f m + 0
    rw [Int.add_zero]
  | n + 1 => by
    show csF f (m + n) + cvV (f (m + n)) = csF f m + (csF (fun k => f (m + k)) n + cvV (f (m + n)))
    rw [csF_add f m n, Int.add_assoc]
theorem cs_s {f : Nat → Int} {v v' t x y z : Int} (ht : t = w64 (csF f v.toNat)) (hx : x = cvV y) (hy : y = f v.toNat) (hz : z = w64 (t + x)) (h0 : 0 ≤ v) (hv : v' = v + 1) : z = w64 (csF f v'.toNat) := by
  rw [show v'.toNat = v.toNat + 1 by omega, hz, ht, w64_l, hx, hy]
  rfl
/-- one row more -/
theorem cs_r {f : Nat → Int} {w v v' t x z : Int} (ht : t = w64 (csF f (w * v).toNat)) (hx : x = w64 (csF (fun k => f ((w * v).toNat + k)) w.toNat)) (hz : z = w64 (t + x)) (hw : 0 ≤ w) (h0 : 0 ≤ v) (hv : v' = v + 1) : z = w64 (csF f (w * v').toNat) := by
  have q := Int.mul_nonneg hw h0
  have e : (w * v').toNat = (w * v).toNat + w.toNat := by
    rw [hv, Int.mul_add, Int.mul_one]
    omega
  rw [e, csF_add, hz, ht, hx, w64_l, w64_r]
def btF (f : Nat → Bool) : Nat → Int
  | 0 => 0
  | n + 1 => if f n = true then or32 (btF f n) (shl32 1 (n : Int)) else btF f n
theorem btF_eq {f g : Nat → Bool} : ∀ n : Nat, (∀ k : Nat, k < n → f k = g k) → btF f n = btF g n
  | 0, _ => rfl
  | n + 1, h => by
    show (if f n = true then _ else _) = (if g n = true then _ else _)
    rw [btF_eq n (fun k hk => h k (by omega)), h n (by omega)]
theorem bt_y {f : Nat → Bool} {v v' t z : Int} (ht : t = btF f v.toNat) (hf : f v.toNat = true) (hz : z = or32 t (shl32 1 v)) (h0 : 0 ≤ v) (hv : v' = v + 1) : z = btF f v'.toNat := by
  rw [show v'.toNat = v.toNat + 1 by omega, hz, ht]
  show _ = if f v.toNat = true then or32 (btF f v.toNat) (shl32 1 ((v.toNat : Nat) : Int)) else _
  rw [if_pos hf, show ((v.toNat : Nat) : Int) = v by omega]
theorem bt_n {f : Nat → Bool} {v v' t : Int} (ht : t = btF f v.toNat) (hf : f v.toNat = false) (h0 : 0 ≤ v) (hv : v' = v + 1) : t = btF f v'.toNat := by
  rw [show v'.toNat = v.toNat + 1 by omega, ht]
  show _ = if f v.toNat = true then _ else btF f v.toNat
  rw [if_neg (by rw [hf]; decide)]
/-- the first place where two differ -/
def JDW (f g : Nat → Int) (N x : Int) : Prop := (0 ≤ x ∧ x < N) ∧ f x.toNat ≠ g x.toNat ∧ (∀ k : Nat, (k : Int) < x → f k = g k) ∨ x = -4 ∧ ∀ k : Nat, (k : Int) < N → f k = g k
theorem JDW_eq {f g f' g' : Nat → Int} {N x : Int} (e : ∀ k : Nat, (k : Int) < N → f k = f' k ∧ g k = g' k) (h : JDW f g N x) : JDW f' g' N x := by
  rcases h with ⟨h0, h1, h2⟩ | ⟨h0, h1⟩
  · refine Or.inl ⟨h0, ?_, fun k hk => ?_⟩
    · rw [← (e x.toNat (by omega)).1, ← (e x.toNat (by omega)).2]
      exact h1
    · rw [← (e k (by omega)).1, ← (e k (by omega)).2]
      exact h2 k hk
  · refine Or.inr ⟨h0, fun k hk => ?_⟩
    rw [← (e k hk).1, ← (e k hk).2]
    exact h1 k hk
theorem JDW_u {f g : Nat → Int} {N x y : Int} (h : JDW f g N x) (k : JDW f g N y) : x = y := by
  rcases h with ⟨h0, h1, h2⟩ | ⟨h0, h1⟩ <;> rcases k with ⟨k0, k1, k2⟩ | ⟨k0, k1⟩
  · by_cases a : x < y
    · exact absurd (k2 x.toNat (by omega)) h1
    · by_cases b : y < x
      · exact absurd (h2 y.toNat (by omega)) k1
      · omega
  · exact absurd (k1 x.toNat (by omega)) h1
  · exact absurd (h1 y.toNat (by omega)) k1
  · omega
theorem all_e {f g : Nat → Int} {v v' x y : Int} (h : ∀ k : Nat, (k : Int) < v → f k = g k) (hx : x = f v.toNat) (hy : y = g v.toNat) (he : x = y) (h0 : 0 ≤ v) (hv : v' = v + 1) : ∀ k : Nat, (k : Int) < v' → f k = g k := by
  intro k hk
  by_cases hq : k = v.toNat
  · rw [hq, ← hx, ← hy]
    exact he
  · exact h k (by omega)
def s_X10_secondN : Sp := rRI 3 10 (fun as Z => match as with
    | [.inr (.inr a0), .inl a1, .inl a2] => ((a0 = 1)) ∧ (True) ∧ (True) ∧ (NBS Z) ∧ (NBF Z) ∧ (NBB Z) ∧ True
    | _ => False) (fun as => match as with
    | [.inr (.inr a0), .inl a1, .inl a2] => [71, 73, 5070, 5072]
    | _ => []) (fun as Z (x : Int) Z' => match as with
    | [.inr (.inr a0), .inl a1, .inl a2] => (x = -1 ∧ ¬((1 ≤ a1 ∧ a1 ≤ 12) ∧ 0 ≤ a2 ∧ a2 < Z 2 2) ∨ ((1 ≤ a1 ∧ a1 ≤ 12) ∧ 0 ≤ a2 ∧ a2 < Z 2 2) ∧ ∃ R : Nat → Int, RWC Z 0 a1 R ∧ x = btF (fun l => decide (mkV (envN Z 2) R a1.toNat a2.toNat l ≠ R (144 * a1.toNat + 4 * a2.toNat + l))) 4) ∧ (NBB Z') ∧ True
    | _ => False)
set_option maxRecDepth 100000 in
set_option maxHeartbeats 40000000 in
theorem c_X10_secondN {l : Launch} {D : va_G} {cA : Nat → ClassId} : PM l D cA yX10_second cX10_second 6 (some .int) 6 164 s_X10_secondN := by
  refine of_X10_second (c_X10_isLaterStep) ⟨rfl, rfl⟩ (c_X10_isCell) ⟨rfl, rfl⟩ (c_X10_reckonedN) ⟨rfl, rfl⟩ (c_X0_madeN) ⟨rfl, rfl⟩ (c_X0_numberN) ⟨rfl, rfl⟩ (fun as σ hwf hao hpre => ?_)
  obtain ⟨n, Z, R⟩ := σ
  obtain ⟨hR, hI, hpre⟩ := hpre
  obtain rfl : R = R0 := hR
  (try replace hI : CI Z := hI)
  rcases as with _ | ⟨x | x | a0, _ | ⟨a1 | x | x, _ | ⟨a2 | x | x, _ | ⟨v, t⟩⟩⟩⟩ <;> first | exact (hpre : False).elim | skip
  obtain ⟨k1l, k1u⟩ : okI a1 := hao (vi a1) (by simp)
  obtain ⟨k2l, k2u⟩ : okI a2 := hao (vi a2) (by simp)
  obtain ⟨h0, h1, h2, q0, q1, q2, -⟩ := hpre
  have hk : kp ([71, 73, 5070, 5072]) Z Z := kp_refl
  refine ⟨Nat.le_of_ble_eq_true rfl, fun G hG => ?_⟩
  clear hao hwf
  (try dsimp only at q0)
  (try dsimp only at q1)
  (try dsimp only at q2)
  obtain rfl := h0
  have loop : ∀ fuel : Nat, (∀ (Z1 : ZT) (v4 : Int) (v5 : Int), CI Z1 → kp ([71, 73, 5070, 5072]) Z Z1 → ((0 ≤ v5 ∧ v5 ≤ 4) ∧ (NBB Z1) ∧ (RWC Z 0 a1 (BR Z1 72)) ∧ (v4 = btF (fun l => decide (mkV (envN Z 2) (BR Z1 72) a1.toNat a2.toNat l ≠ BR Z1 72 (144 * a1.toNat + 4 * a2.toNat + l))) v5.toNat) ∧ (((1 ≤ a1 ∧ a1 ≤ 12) ∧ 0 ≤ a2 ∧ a2 < Z 2 2)) ∧ True) → 5 - v5 ≤ (fuel : Int) → G 30 [(0, vr 1), (1, vi a1), (2, vi a2), (3, vr 72), (4, vi v4), (5, vi v5)] [] (n, Z1, R0)) := by
    intro fuel
    induction fuel with
    | zero => exact (by intros; omega)
    | succ fuel ih =>
      have ih30 := ih
      · intro Z1 v4 v5 hI1 hk1 hv hm
        obtain ⟨w0, w1, w2, w3, w4, -⟩ := hv
        clear hk hI
        have hen1 : envN Z1 2 = envN Z 2 := envN_o (fun o h1 h2 => kp_out (lo := 19) (hi := 30) hk1 (by rfl) (by decide) o h1 h2) (kp_av (o := 3) hk1 (by rfl) (by decide))
        have hns1 := NBS_kp hk1 (by rfl) q0
        have hnf1 := NBF_k hk1 (by rfl) q1
        have g20 : Z1 2 0 = Z 2 0 := kpF 2 0 hk1 (by rfl)
        have g21 : Z1 2 1 = Z 2 1 := kpF 2 1 hk1 (by rfl)
        have g22 : Z1 2 2 = Z 2 2 := kpF 2 2 hk1 (by rfl)
        have h36 : Z1 2 2 ≤ 36 := (hI1 2 2 4 36 rfl).2
        refine wq_run hG n R0 [30] 900 _ _ _ _ ?_
        repeat' (first
            | with_reducible rfl
            | ((with_reducible show PLW _); exact hns1.2.2.1)
            | ((with_reducible show NBS _); first | exact q0 | exact hnb)
            | ((with_reducible show NBF _); first | exact q1 | exact hnf)
            | ((with_reducible show FRR _); exact q0.1)
            | ((with_reducible show PLW _); exact q0.2.2.1)
            | ((with_reducible show ORD _ _); exact q0.2.2.2.2.1)
            | ((with_reducible show BM _ 70 2); exact q2.1)
            | ((with_reducible show BM _ 72 2); exact q2.2.1)
            | ((with_reducible show NBB _); exact q2)
            | refine And.intro ?_ ?_
            | with_reducible exact True.intro
            | ((with_reducible show _ = true); rfl)
            | ((with_reducible show recvG _ _); rfl)
            | ((with_reducible show CI _); first | with_reducible assumption | assumption)
            | (fail_if_success (first | (with_reducible show _ ≤ _) | (with_reducible show _ = _) | (with_reducible show _ ∨ _) | (with_reducible show _ < _) | (with_reducible show G _ _ _ _))
               first
               | show G _ _ _ _
               | (refine ld_bnd (by first | with_reducible assumption | assumption) rfl ?_; intro _ _ _ hld; (try dsimp only at hld); (try simp only [Nat.reduceAdd] at hld))
               | (refine st_k (by first | with_reducible assumption | assumption) (by first | with_reducible assumption | assumption) (by first | exact Or.inl (by decide) | exact Or.inr (by decide)) (fun lo hi hb => by first | (cases hb; done) | (cases hb; constructor <;> (first | omega | ((try dsimp only); (first | omega | (simp (disch := omega) only [w32_id, w64_id]; omega) | (simp only [w32, w64]; omega) | (with_reducible refine (and32_le ?_ ?_).1 <;> omega) | (with_reducible refine (and32_le ?_ ?_).2 <;> omega) | (with_reducible refine (mulR ?_ ?_ ?_ ?_).1 <;> omega) | (with_reducible refine (mulR ?_ ?_ ?_ ?_).2 <;> omega) | (simp only [w32, w64] at *; omega) | (simp (disch := omega) only [w32_id, w64_id] at *; omega) | (simp (disch := omega) only [tdiv_nn, tmod_nn, w32_id, w64_id] at *; omega) | (subst_vars; simp [upZ] at *; omega) | (subst_vars; simp [upZ] at *; simp only [w32, w64] at *; omega))) | fail))) ?_; intro Z' _ hkk; intro hld; (try dsimp only at hld); (try simp only [Nat.reduceAdd] at hld); intro hup; (try dsimp only at hup))
               | (refine st_k (by first | with_reducible assumption | assumption) (by first | with_reducible assumption | assumption) (by first | exact Or.inl (by decide) | exact Or.inr (by decide)) (fun lo hi hb => ?_) ?_; (cases hb; refine And.intro ?_ ?_))
               | refine st_same ?_
               | (intro (r : Option PV) σ' hq
                  first
                  | (obtain ⟨rfl, x, rfl, hp⟩ := hq; (try replace hp : _ ∧ _ := hp); (try dsimp only at hp); (first | (have hm_ : _ = mkV _ _ _ _ _ := hp.1; rw [hen1] at hm_) | (have hnu : _ = BR _ _ _ := hp.1) | skip))
                  | (obtain ⟨Z', (o : Nat), rfl, rfl, hI2, hk2, ⟨⟨hp, rfl⟩ | ⟨hp, rfl⟩, -⟩⟩ := hq <;> ((first | have hk3 := kp_to (by first | with_reducible assumption | assumption) (by rfl) hk2 | have hk3 := ks_to (by first | with_reducible assumption | assumption) (by rfl) hk2); (try have hen := envN_o (g := 2) (fun o h1 h2 => kp_out (lo := 19) (hi := 30) hk2 (by rfl) (by decide) o h1 h2) (kp_av (o := 3) hk2 (by rfl) (by decide))); (try have h22 := kpF 2 2 hk2 (by rfl)); (try have h29 := kp_av (o := 29) hk2 (by rfl) (by decide)); (try have h184 := kpF 18 4 hk2 (by rfl)); (try (have hsl70 := slB_o (b := 70) (kpF 70 1 hk2 (by rfl)) (kpF 70 3 hk2 (by rfl)) (fun o h1 h2 => kp_out (lo := 31) (hi := 34) hk2 (by rfl) (by decide) o h1 h2) h184)); (try (have hsl72 := slB_o (b := 72) (kpF 72 1 hk2 (by rfl)) (kpF 72 3 hk2 (by rfl)) (fun o h1 h2 => kp_out (lo := 31) (hi := 34) hk2 (by rfl) (by decide) o h1 h2) h184)); (try have hz70 := (kpF 70 0 hk2 (by rfl)).trans q1.1.1); (try have hz72 := (kpF 72 0 hk2 (by rfl)).trans q1.1.2.1); (try have hnb := NBS_kp hk2 (by rfl) q0); (try have hnf := NBF_k hk2 (by rfl) q1); clear hk2))
                  | (obtain ⟨Z', x, rfl, rfl, hI2, hk2, hp⟩ := hq; (try replace hp : _ ∧ _ := hp); (try dsimp only at hp); (first | have hk3 := kp_to (by first | with_reducible assumption | assumption) (by rfl) hk2 | have hk3 := ks_to (by first | with_reducible assumption | assumption) (by rfl) hk2); (try have hen := envN_o (g := 2) (fun o h1 h2 => kp_out (lo := 19) (hi := 30) hk2 (by rfl) (by decide) o h1 h2) (kp_av (o := 3) hk2 (by rfl) (by decide))); (try have h22 := kpF 2 2 hk2 (by rfl)); (try have h29 := kp_av (o := 29) hk2 (by rfl) (by decide)); (try have h184 := kpF 18 4 hk2 (by rfl)); (try (have hsl70 := slB_o (b := 70) (kpF 70 1 hk2 (by rfl)) (kpF 70 3 hk2 (by rfl)) (fun o h1 h2 => kp_out (lo := 31) (hi := 34) hk2 (by rfl) (by decide) o h1 h2) h184)); (try (have hsl72 := slB_o (b := 72) (kpF 72 1 hk2 (by rfl)) (kpF 72 3 hk2 (by rfl)) (fun o h1 h2 => kp_out (lo := 31) (hi := 34) hk2 (by rfl) (by decide) o h1 h2) h184)); (try have hz70 := (kpF 70 0 hk2 (by rfl)).trans q1.1.1); (try have hz72 := (kpF 72 0 hk2 (by rfl)).trans q1.1.2.1); (try have hnb := NBS_kp hk2 (by rfl) q0); (try have hnf := NBF_k hk2 (by rfl) q1); clear hk2; (first | (have hm_ : _ = mkV _ _ _ _ _ := hp.1; rw [hen1] at hm_) | (have hnu : _ = BR _ _ _ := hp.1) | skip))
                  | (obtain ⟨Z', rfl, rfl, hI2, hk2, hp⟩ := hq; (try replace hp : _ ∧ _ := hp); (try dsimp only at hp); (first | have hk3 := kp_to (by first | with_reducible assumption | assumption) (by rfl) hk2 | have hk3 := ks_to (by first | with_reducible assumption | assumption) (by rfl) hk2); (try have hen := envN_o (g := 2) (fun o h1 h2 => kp_out (lo := 19) (hi := 30) hk2 (by rfl) (by decide) o h1 h2) (kp_av (o := 3) hk2 (by rfl) (by decide))); (try have h22 := kpF 2 2 hk2 (by rfl)); (try have h29 := kp_av (o := 29) hk2 (by rfl) (by decide)); (try have h184 := kpF 18 4 hk2 (by rfl)); (try (have hsl70 := slB_o (b := 70) (kpF 70 1 hk2 (by rfl)) (kpF 70 3 hk2 (by rfl)) (fun o h1 h2 => kp_out (lo := 31) (hi := 34) hk2 (by rfl) (by decide) o h1 h2) h184)); (try (have hsl72 := slB_o (b := 72) (kpF 72 1 hk2 (by rfl)) (kpF 72 3 hk2 (by rfl)) (fun o h1 h2 => kp_out (lo := 31) (hi := 34) hk2 (by rfl) (by decide) o h1 h2) h184)); (try have hz70 := (kpF 70 0 hk2 (by rfl)).trans q1.1.1); (try have hz72 := (kpF 72 0 hk2 (by rfl)).trans q1.1.2.1); (try have hnb := NBS_kp hk2 (by rfl) q0); (try have hnf := NBF_k hk2 (by rfl) q1); clear hk2; (first | (have hm_ : _ = mkV _ _ _ _ _ := hp.1; rw [hen1] at hm_) | (have hnu : _ = BR _ _ _ := hp.1) | skip))
                  | (obtain ⟨rfl, rfl⟩ := hq)
                  | (obtain ⟨Z', x, rfl, rfl, hI2, hk2⟩ := hq; have hkn := keeps_nil hk2; clear hk2; subst hkn)
                  | (obtain ⟨Z', x, rfl, rfl, hI2, hk2⟩ := hq; (first | have hk3 := kp_to (by first | with_reducible assumption | assumption) (by rfl) hk2 | have hk3 := ks_to (by first | with_reducible assumption | assumption) (by rfl) hk2); (try have hen := envN_o (g := 2) (fun o h1 h2 => kp_out (lo := 19) (hi := 30) hk2 (by rfl) (by decide) o h1 h2) (kp_av (o := 3) hk2 (by rfl) (by decide))); (try have h22 := kpF 2 2 hk2 (by rfl)); (try have h29 := kp_av (o := 29) hk2 (by rfl) (by decide)); (try have h184 := kpF 18 4 hk2 (by rfl)); (try (have hsl70 := slB_o (b := 70) (kpF 70 1 hk2 (by rfl)) (kpF 70 3 hk2 (by rfl)) (fun o h1 h2 => kp_out (lo := 31) (hi := 34) hk2 (by rfl) (by decide) o h1 h2) h184)); (try (have hsl72 := slB_o (b := 72) (kpF 72 1 hk2 (by rfl)) (kpF 72 3 hk2 (by rfl)) (fun o h1 h2 => kp_out (lo := 31) (hi := 34) hk2 (by rfl) (by decide) o h1 h2) h184)); (try have hz70 := (kpF 70 0 hk2 (by rfl)).trans q1.1.1); (try have hz72 := (kpF 72 0 hk2 (by rfl)).trans q1.1.2.1); (try have hnb := NBS_kp hk2 (by rfl) q0); (try have hnf := NBF_k hk2 (by rfl) q1); clear hk2)
                  | (rcases hq with ⟨Z', rfl, rfl, hI2, hk2⟩ | ⟨Z', rfl, rfl, hI2, hk2⟩ <;> ((first | have hk3 := kp_to (by first | with_reducible assumption | assumption) (by rfl) hk2 | have hk3 := ks_to (by first | with_reducible assumption | assumption) (by rfl) hk2); (try have hen := envN_o (g := 2) (fun o h1 h2 => kp_out (lo := 19) (hi := 30) hk2 (by rfl) (by decide) o h1 h2) (kp_av (o := 3) hk2 (by rfl) (by decide))); (try have h22 := kpF 2 2 hk2 (by rfl)); (try have h29 := kp_av (o := 29) hk2 (by rfl) (by decide)); (try have h184 := kpF 18 4 hk2 (by rfl)); (try (have hsl70 := slB_o (b := 70) (kpF 70 1 hk2 (by rfl)) (kpF 70 3 hk2 (by rfl)) (fun o h1 h2 => kp_out (lo := 31) (hi := 34) hk2 (by rfl) (by decide) o h1 h2) h184)); (try (have hsl72 := slB_o (b := 72) (kpF 72 1 hk2 (by rfl)) (kpF 72 3 hk2 (by rfl)) (fun o h1 h2 => kp_out (lo := 31) (hi := 34) hk2 (by rfl) (by decide) o h1 h2) h184)); (try have hz70 := (kpF 70 0 hk2 (by rfl)).trans q1.1.1); (try have hz72 := (kpF 72 0 hk2 (by rfl)).trans q1.1.2.1); (try have hnb := NBS_kp hk2 (by rfl) q0); (try have hnf := NBF_k hk2 (by rfl) q1); clear hk2))
                  | (obtain ⟨Z', rfl, rfl, hI2, hk2⟩ := hq; (first | have hk3 := kp_to (by first | with_reducible assumption | assumption) (by rfl) hk2 | have hk3 := ks_to (by first | with_reducible assumption | assumption) (by rfl) hk2); (try have hen := envN_o (g := 2) (fun o h1 h2 => kp_out (lo := 19) (hi := 30) hk2 (by rfl) (by decide) o h1 h2) (kp_av (o := 3) hk2 (by rfl) (by decide))); (try have h22 := kpF 2 2 hk2 (by rfl)); (try have h29 := kp_av (o := 29) hk2 (by rfl) (by decide)); (try have h184 := kpF 18 4 hk2 (by rfl)); (try (have hsl70 := slB_o (b := 70) (kpF 70 1 hk2 (by rfl)) (kpF 70 3 hk2 (by rfl)) (fun o h1 h2 => kp_out (lo := 31) (hi := 34) hk2 (by rfl) (by decide) o h1 h2) h184)); (try (have hsl72 := slB_o (b := 72) (kpF 72 1 hk2 (by rfl)) (kpF 72 3 hk2 (by rfl)) (fun o h1 h2 => kp_out (lo := 31) (hi := 34) hk2 (by rfl) (by decide) o h1 h2) h184)); (try have hz70 := (kpF 70 0 hk2 (by rfl)).trans q1.1.1); (try have hz72 := (kpF 72 0 hk2 (by rfl)).trans q1.1.2.1); (try have hnb := NBS_kp hk2 (by rfl) q0); (try have hnf := NBF_k hk2 (by rfl) q1); clear hk2))
               | (intro hc; (try simp only [cmp3_c] at hc); simp only [cmpI] at hc)
               | (show CI _; assumption)
               | intro (_ : Int)
               | intro (Z' : ZT)
               | intro (_ : CI _)
               | (intro (hkk : kp _ _ _))
               | intro (_ : _ ≤ _)
               | (intro (hup : _ = upZ _ _ _ _); (try dsimp only at hup))
               | (intro (hld : _ = _); (try dsimp only at hld); (try simp only [Nat.reduceAdd] at hld))
               | intro (_ : _ < _)
               | intro (_ : _ ≠ _)
               | intro (_ : _ ∨ _)))
        all_goals first
          | ((with_reducible show G 30 _ _ _); refine hG.2 30 _ [(0, vr 1), (1, vi a1), (2, vi a2), (3, vr 72), (4, vi _), (5, vi _)] _ _ rfl ?_)
          | ((fail_if_success (first | (with_reducible show _ ≤ _) | (with_reducible show _ = _) | (with_reducible show _ ∨ _) | (with_reducible show _ < _))); first | refine hG.2 30 _ [(0, vr 1), (1, vi a1), (2, vi a2), (3, vr 72), (4, vi _), (5, vi _)] _ _ rfl ?_)
          | skip
        all_goals first
          | with_reducible rfl
          | ((with_reducible show _ = _); rfl)
          | ((with_reducible show recvG _ _); rfl)
          | ((with_reducible show G 30 _ _ _); refine ih30 _ _ _ ?_ ?_ ?_ ?_; assumption; assumption; (refine ⟨?_, ?_, ?_, ?_, ?_, trivial⟩; (first | done | focus (first | (dsimp only; done) | ((try dsimp only); (first | omega | (refine ⟨?_, ?_⟩ <;> (first | omega | ((try dsimp only); (first | omega | (simp (disch := omega) only [w32_id, w64_id]; omega) | (simp only [w32, w64]; omega) | (with_reducible refine (and32_le ?_ ?_).1 <;> omega) | (with_reducible refine (and32_le ?_ ?_).2 <;> omega) | (with_reducible refine (mulR ?_ ?_ ?_ ?_).1 <;> omega) | (with_reducible refine (mulR ?_ ?_ ?_ ?_).2 <;> omega) | (simp only [w32, w64] at *; omega) | (simp (disch := omega) only [w32_id, w64_id] at *; omega) | (simp (disch := omega) only [tdiv_nn, tmod_nn, w32_id, w64_id] at *; omega) | (subst_vars; simp [upZ] at *; omega) | (subst_vars; simp [upZ] at *; simp only [w32, w64] at *; omega))) | fail)) | (first | omega | ((try dsimp only); (first | omega | (simp (disch := omega) only [w32_id, w64_id]; omega) | (simp only [w32, w64]; omega) | (with_reducible refine (and32_le ?_ ?_).1 <;> omega) | (with_reducible refine (and32_le ?_ ?_).2 <;> omega) | (with_reducible refine (mulR ?_ ?_ ?_ ?_).1 <;> omega) | (with_reducible refine (mulR ?_ ?_ ?_ ?_).2 <;> omega) | (simp only [w32, w64] at *; omega) | (simp (disch := omega) only [w32_id, w64_id] at *; omega) | (simp (disch := omega) only [tdiv_nn, tmod_nn, w32_id, w64_id] at *; omega) | (subst_vars; simp [upZ] at *; omega) | (subst_vars; simp [upZ] at *; simp only [w32, w64] at *; omega))) | fail) | fail)))); (first | done | focus (first | (dsimp only; done) | ((try dsimp only); ((first | with_reducible assumption | ((have hrk : _ ∧ NBB _ ∧ _ ≤ _ ∧ _ ≤ _ := (by assumption)); (have hnb2 := hrk.2.1); (have hdn := hrk.2.2); exact hnb2) | fail))))); (first | done | focus (first | (dsimp only; done) | ((try dsimp only); ((first | with_reducible assumption | ((have hrk : _ ∧ NBB _ ∧ _ ≤ _ ∧ _ ≤ _ := (by assumption)); (have hnb2 := hrk.2.1); (have hdn := hrk.2.2); exact RW_2 hnb2.2.1 hdn.2 hdn.1 rfl q1 hen h22 h29 hsl72) | fail))))); (first | done | focus (first | (dsimp only; done) | ((try dsimp only); ((first | exact rfl | (refine bt_y w3 (decide_eq_true ?_) rfl (by omega) (by first | omega | (simp (disch := omega) only [w32_id]; first | done | omega)); (rw [← hm_, ← hnu]; omega)) | (refine bt_n w3 (decide_eq_false ?_) (by omega) (by first | omega | (simp (disch := omega) only [w32_id]; first | done | omega)); (rw [← hm_, ← hnu]; omega)) | fail))))); (first | done | focus (first | (dsimp only; done) | ((try dsimp only); ((first | assumption | (refine ⟨⟨?_, ?_⟩, ?_, ?_⟩ <;> omega) | fail)))))); (first | omega | ((try dsimp only); (first | omega | (simp (disch := omega) only [w32_id, w64_id]; omega) | (simp only [w32, w64]; omega) | (with_reducible refine (and32_le ?_ ?_).1 <;> omega) | (with_reducible refine (and32_le ?_ ?_).2 <;> omega) | (with_reducible refine (mulR ?_ ?_ ?_ ?_).1 <;> omega) | (with_reducible refine (mulR ?_ ?_ ?_ ?_).2 <;> omega) | (simp only [w32, w64] at *; omega) | (simp (disch := omega) only [w32_id, w64_id] at *; omega) | (simp (disch := omega) only [tdiv_nn, tmod_nn, w32_id, w64_id] at *; omega) | (subst_vars; simp [upZ] at *; omega) | (subst_vars; simp [upZ] at *; simp only [w32, w64] at *; omega))) | fail))
          | with_reducible exact trivial
          | with_reducible assumption
          | ((with_reducible show NRW _ 2); exact hns1.2.1)
          | ((with_reducible show _ = _); first | exact hnf1.1.2.1)
          | ((with_reducible show _ < _); (show _ < (36 : Int)); omega)
          | ((with_reducible show _ ≤ _); (show _ ≤ (36 : Int)); omega)
          | ((fail_if_success (first | (with_reducible show _ ≤ _) | (with_reducible show _ = _) | (with_reducible show _ ∨ _) | (with_reducible show _ < _) | (with_reducible show G _ _ _ _))); (refine Exists.intro _ (Exists.intro _ (And.intro rfl (And.intro rfl ?_))); refine ⟨by assumption, by assumption, ?_⟩; (refine ⟨?_, ?_, trivial⟩; (first | done | focus (first | (dsimp only; done) | ((try dsimp only); ((first | (refine Or.inl ⟨?_, ?_⟩ <;> omega) | ((have e5 : v5 = 4 := by omega); subst e5; exact Or.inr ⟨w4, _, w2, w3⟩) | fail))))); (first | done | focus (first | (dsimp only; done) | ((try dsimp only); ((first | exact q2 | exact w1 | fail))))))))
          | ((fail_if_success (first | (with_reducible show _ ≤ _) | (with_reducible show _ = _) | (with_reducible show _ ∨ _) | (with_reducible show _ < _) | (with_reducible show G _ _ _ _))); (refine Exists.intro _ (Exists.intro _ (And.intro rfl (And.intro rfl ?_))); refine ⟨by assumption, by assumption, ?_⟩; simp only [Nat.reduceAdd] at *; (refine ⟨?_, ?_, trivial⟩; (first | done | focus (first | (dsimp only; done) | ((try dsimp only); ((first | (refine Or.inl ⟨?_, ?_⟩ <;> omega) | ((have e5 : v5 = 4 := by omega); subst e5; exact Or.inr ⟨w4, _, w2, w3⟩) | fail))))); (first | done | focus (first | (dsimp only; done) | ((try dsimp only); ((first | exact q2 | exact w1 | fail))))))))
          | omega
          | (dsimp only; omega)
          | decide
          | (show (0 : Int) < _; omega)
          | (show (0 : Int) < _; simp only [w64] at *; omega)
          | (simp only [w32, w64] at *; omega)
          | (first | omega | ((try dsimp only); (first | omega | (simp (disch := omega) only [w32_id, w64_id]; omega) | (simp only [w32, w64]; omega) | (with_reducible refine (and32_le ?_ ?_).1 <;> omega) | (with_reducible refine (and32_le ?_ ?_).2 <;> omega) | (with_reducible refine (mulR ?_ ?_ ?_ ?_).1 <;> omega) | (with_reducible refine (mulR ?_ ?_ ?_ ?_).2 <;> omega) | (simp only [w32, w64] at *; omega) | (simp (disch := omega) only [w32_id, w64_id] at *; omega) | (simp (disch := omega) only [tdiv_nn, tmod_nn, w32_id, w64_id] at *; omega) | (subst_vars; simp [upZ] at *; omega) | (subst_vars; simp [upZ] at *; simp only [w32, w64] at *; omega))) | fail)
          | ((with_reducible show swT _ _ _ _); exact trivial)
          | rfl
          | ((fail_if_success (first | (with_reducible show _ ≤ _) | (with_reducible show _ = _) | (with_reducible show _ ∨ _) | (with_reducible show _ < _) | (with_reducible show G _ _ _ _) | (with_reducible show Exists _))); exact trivial)
          | skip
  have h22r : 4 ≤ Z 2 2 ∧ Z 2 2 ≤ 36 := hI 2 2 4 36 rfl
  have h20r : 2 ≤ Z 2 0 ∧ Z 2 0 ≤ 6 := hI 2 0 2 6 rfl
  have h21r : 2 ≤ Z 2 1 ∧ Z 2 1 ≤ 6 := hI 2 1 2 6 rfl
  refine wq_run hG n R0 [30] 900 _ _ _ _ ?_
  repeat' (first
      | with_reducible rfl
      | ((with_reducible show PLW _); exact hns1.2.2.1)
      | ((with_reducible show NBS _); first | exact q0 | exact hnb)
      | ((with_reducible show NBF _); first | exact q1 | exact hnf)
      | ((with_reducible show FRR _); exact q0.1)
      | ((with_reducible show PLW _); exact q0.2.2.1)
      | ((with_reducible show ORD _ _); exact q0.2.2.2.2.1)
      | ((with_reducible show BM _ 70 2); exact q2.1)
      | ((with_reducible show BM _ 72 2); exact q2.2.1)
      | ((with_reducible show NBB _); exact q2)
      | refine And.intro ?_ ?_
      | with_reducible exact True.intro
      | ((with_reducible show _ = true); rfl)
      | ((with_reducible show recvG _ _); rfl)
      | ((with_reducible show CI _); first | with_reducible assumption | assumption)
      | (fail_if_success (first | (with_reducible show _ ≤ _) | (with_reducible show _ = _) | (with_reducible show _ ∨ _) | (with_reducible show _ < _) | (with_reducible show G _ _ _ _))
         first
         | show G _ _ _ _
         | (refine ld_bnd (by first | with_reducible assumption | assumption) rfl ?_; intro _ _ _ hld; (try dsimp only at hld); (try simp only [Nat.reduceAdd] at hld))
         | (refine st_k (by first | with_reducible assumption | assumption) (by first | with_reducible assumption | assumption) (by first | exact Or.inl (by decide) | exact Or.inr (by decide)) (fun lo hi hb => by first | (cases hb; done) | (cases hb; constructor <;> (first | omega | ((try dsimp only); (first | omega | (simp (disch := omega) only [w32_id, w64_id]; omega) | (simp only [w32, w64]; omega) | (with_reducible refine (and32_le ?_ ?_).1 <;> omega) | (with_reducible refine (and32_le ?_ ?_).2 <;> omega) | (with_reducible refine (mulR ?_ ?_ ?_ ?_).1 <;> omega) | (with_reducible refine (mulR ?_ ?_ ?_ ?_).2 <;> omega) | (simp only [w32, w64] at *; omega) | (simp (disch := omega) only [w32_id, w64_id] at *; omega) | (simp (disch := omega) only [tdiv_nn, tmod_nn, w32_id, w64_id] at *; omega) | (subst_vars; simp [upZ] at *; omega) | (subst_vars; simp [upZ] at *; simp only [w32, w64] at *; omega))) | fail))) ?_; intro Z' _ hkk; intro hld; (try dsimp only at hld); (try simp only [Nat.reduceAdd] at hld); intro hup; (try dsimp only at hup))
         | (refine st_k (by first | with_reducible assumption | assumption) (by first | with_reducible assumption | assumption) (by first | exact Or.inl (by decide) | exact Or.inr (by decide)) (fun lo hi hb => ?_) ?_; (cases hb; refine And.intro ?_ ?_))
         | refine st_same ?_
         | (intro (r : Option PV) σ' hq
            first
            | (obtain ⟨rfl, x, rfl, hp⟩ := hq; (try replace hp : _ ∧ _ := hp); (try dsimp only at hp); (first | (have hm_ : _ = mkV _ _ _ _ _ := hp.1; rw [hen1] at hm_) | (have hnu : _ = BR _ _ _ := hp.1) | skip))
            | (obtain ⟨Z', (o : Nat), rfl, rfl, hI2, hk2, ⟨⟨hp, rfl⟩ | ⟨hp, rfl⟩, -⟩⟩ := hq <;> ((first | have hk3 := kp_to (by first | with_reducible assumption | assumption) (by rfl) hk2 | have hk3 := ks_to (by first | with_reducible assumption | assumption) (by rfl) hk2); (try have hen := envN_o (g := 2) (fun o h1 h2 => kp_out (lo := 19) (hi := 30) hk2 (by rfl) (by decide) o h1 h2) (kp_av (o := 3) hk2 (by rfl) (by decide))); (try have h22 := kpF 2 2 hk2 (by rfl)); (try have h29 := kp_av (o := 29) hk2 (by rfl) (by decide)); (try have h184 := kpF 18 4 hk2 (by rfl)); (try (have hsl70 := slB_o (b := 70) (kpF 70 1 hk2 (by rfl)) (kpF 70 3 hk2 (by rfl)) (fun o h1 h2 => kp_out (lo := 31) (hi := 34) hk2 (by rfl) (by decide) o h1 h2) h184)); (try (have hsl72 := slB_o (b := 72) (kpF 72 1 hk2 (by rfl)) (kpF 72 3 hk2 (by rfl)) (fun o h1 h2 => kp_out (lo := 31) (hi := 34) hk2 (by rfl) (by decide) o h1 h2) h184)); (try have hz70 := (kpF 70 0 hk2 (by rfl)).trans q1.1.1); (try have hz72 := (kpF 72 0 hk2 (by rfl)).trans q1.1.2.1); (try have hnb := NBS_kp hk2 (by rfl) q0); (try have hnf := NBF_k hk2 (by rfl) q1); clear hk2))
            | (obtain ⟨Z', x, rfl, rfl, hI2, hk2, hp⟩ := hq; (try replace hp : _ ∧ _ := hp); (try dsimp only at hp); (first | have hk3 := kp_to (by first | with_reducible assumption | assumption) (by rfl) hk2 | have hk3 := ks_to (by first | with_reducible assumption | assumption) (by rfl) hk2); (try have hen := envN_o (g := 2) (fun o h1 h2 => kp_out (lo := 19) (hi := 30) hk2 (by rfl) (by decide) o h1 h2) (kp_av (o := 3) hk2 (by rfl) (by decide))); (try have h22 := kpF 2 2 hk2 (by rfl)); (try have h29 := kp_av (o := 29) hk2 (by rfl) (by decide)); (try have h184 := kpF 18 4 hk2 (by rfl)); (try (have hsl70 := slB_o (b := 70) (kpF 70 1 hk2 (by rfl)) (kpF 70 3 hk2 (by rfl)) (fun o h1 h2 => kp_out (lo := 31) (hi := 34) hk2 (by rfl) (by decide) o h1 h2) h184)); (try (have hsl72 := slB_o (b := 72) (kpF 72 1 hk2 (by rfl)) (kpF 72 3 hk2 (by rfl)) (fun o h1 h2 => kp_out (lo := 31) (hi := 34) hk2 (by rfl) (by decide) o h1 h2) h184)); (try have hz70 := (kpF 70 0 hk2 (by rfl)).trans q1.1.1); (try have hz72 := (kpF 72 0 hk2 (by rfl)).trans q1.1.2.1); (try have hnb := NBS_kp hk2 (by rfl) q0); (try have hnf := NBF_k hk2 (by rfl) q1); clear hk2; (first | (have hm_ : _ = mkV _ _ _ _ _ := hp.1; rw [hen1] at hm_) | (have hnu : _ = BR _ _ _ := hp.1) | skip))
            | (obtain ⟨Z', rfl, rfl, hI2, hk2, hp⟩ := hq; (try replace hp : _ ∧ _ := hp); (try dsimp only at hp); (first | have hk3 := kp_to (by first | with_reducible assumption | assumption) (by rfl) hk2 | have hk3 := ks_to (by first | with_reducible assumption | assumption) (by rfl) hk2); (try have hen := envN_o (g := 2) (fun o h1 h2 => kp_out (lo := 19) (hi := 30) hk2 (by rfl) (by decide) o h1 h2) (kp_av (o := 3) hk2 (by rfl) (by decide))); (try have h22 := kpF 2 2 hk2 (by rfl)); (try have h29 := kp_av (o := 29) hk2 (by rfl) (by decide)); (try have h184 := kpF 18 4 hk2 (by rfl)); (try (have hsl70 := slB_o (b := 70) (kpF 70 1 hk2 (by rfl)) (kpF 70 3 hk2 (by rfl)) (fun o h1 h2 => kp_out (lo := 31) (hi := 34) hk2 (by rfl) (by decide) o h1 h2) h184)); (try (have hsl72 := slB_o (b := 72) (kpF 72 1 hk2 (by rfl)) (kpF 72 3 hk2 (by rfl)) (fun o h1 h2 => kp_out (lo := 31) (hi := 34) hk2 (by rfl) (by decide) o h1 h2) h184)); (try have hz70 := (kpF 70 0 hk2 (by rfl)).trans q1.1.1); (try have hz72 := (kpF 72 0 hk2 (by rfl)).trans q1.1.2.1); (try have hnb := NBS_kp hk2 (by rfl) q0); (try have hnf := NBF_k hk2 (by rfl) q1); clear hk2; (first | (have hm_ : _ = mkV _ _ _ _ _ := hp.1; rw [hen1] at hm_) | (have hnu : _ = BR _ _ _ := hp.1) | skip))
            | (obtain ⟨rfl, rfl⟩ := hq)
            | (obtain ⟨Z', x, rfl, rfl, hI2, hk2⟩ := hq; have hkn := keeps_nil hk2; clear hk2; subst hkn)
            | (obtain ⟨Z', x, rfl, rfl, hI2, hk2⟩ := hq; (first | have hk3 := kp_to (by first | with_reducible assumption | assumption) (by rfl) hk2 | have hk3 := ks_to (by first | with_reducible assumption | assumption) (by rfl) hk2); (try have hen := envN_o (g := 2) (fun o h1 h2 => kp_out (lo := 19) (hi := 30) hk2 (by rfl) (by decide) o h1 h2) (kp_av (o := 3) hk2 (by rfl) (by decide))); (try have h22 := kpF 2 2 hk2 (by rfl)); (try have h29 := kp_av (o := 29) hk2 (by rfl) (by decide)); (try have h184 := kpF 18 4 hk2 (by rfl)); (try (have hsl70 := slB_o (b := 70) (kpF 70 1 hk2 (by rfl)) (kpF 70 3 hk2 (by rfl)) (fun o h1 h2 => kp_out (lo := 31) (hi := 34) hk2 (by rfl) (by decide) o h1 h2) h184)); (try (have hsl72 := slB_o (b := 72) (kpF 72 1 hk2 (by rfl)) (kpF 72 3 hk2 (by rfl)) (fun o h1 h2 => kp_out (lo := 31) (hi := 34) hk2 (by rfl) (by decide) o h1 h2) h184)); (try have hz70 := (kpF 70 0 hk2 (by rfl)).trans q1.1.1); (try have hz72 := (kpF 72 0 hk2 (by rfl)).trans q1.1.2.1); (try have hnb := NBS_kp hk2 (by rfl) q0); (try have hnf := NBF_k hk2 (by rfl) q1); clear hk2)
            | (rcases hq with ⟨Z', rfl, rfl, hI2, hk2⟩ | ⟨Z', rfl, rfl, hI2, hk2⟩ <;> ((first | have hk3 := kp_to (by first | with_reducible assumption | assumption) (by rfl) hk2 | have hk3 := ks_to (by first | with_reducible assumption | assumption) (by rfl) hk2); (try have hen := envN_o (g := 2) (fun o h1 h2 => kp_out (lo := 19) (hi := 30) hk2 (by rfl) (by decide) o h1 h2) (kp_av (o := 3) hk2 (by rfl) (by decide))); (try have h22 := kpF 2 2 hk2 (by rfl)); (try have h29 := kp_av (o := 29) hk2 (by rfl) (by decide)); (try have h184 := kpF 18 4 hk2 (by rfl)); (try (have hsl70 := slB_o (b := 70) (kpF 70 1 hk2 (by rfl)) (kpF 70 3 hk2 (by rfl)) (fun o h1 h2 => kp_out (lo := 31) (hi := 34) hk2 (by rfl) (by decide) o h1 h2) h184)); (try (have hsl72 := slB_o (b := 72) (kpF 72 1 hk2 (by rfl)) (kpF 72 3 hk2 (by rfl)) (fun o h1 h2 => kp_out (lo := 31) (hi := 34) hk2 (by rfl) (by decide) o h1 h2) h184)); (try have hz70 := (kpF 70 0 hk2 (by rfl)).trans q1.1.1); (try have hz72 := (kpF 72 0 hk2 (by rfl)).trans q1.1.2.1); (try have hnb := NBS_kp hk2 (by rfl) q0); (try have hnf := NBF_k hk2 (by rfl) q1); clear hk2))
            | (obtain ⟨Z', rfl, rfl, hI2, hk2⟩ := hq; (first | have hk3 := kp_to (by first | with_reducible assumption | assumption) (by rfl) hk2 | have hk3 := ks_to (by first | with_reducible assumption | assumption) (by rfl) hk2); (try have hen := envN_o (g := 2) (fun o h1 h2 => kp_out (lo := 19) (hi := 30) hk2 (by rfl) (by decide) o h1 h2) (kp_av (o := 3) hk2 (by rfl) (by decide))); (try have h22 := kpF 2 2 hk2 (by rfl)); (try have h29 := kp_av (o := 29) hk2 (by rfl) (by decide)); (try have h184 := kpF 18 4 hk2 (by rfl)); (try (have hsl70 := slB_o (b := 70) (kpF 70 1 hk2 (by rfl)) (kpF 70 3 hk2 (by rfl)) (fun o h1 h2 => kp_out (lo := 31) (hi := 34) hk2 (by rfl) (by decide) o h1 h2) h184)); (try (have hsl72 := slB_o (b := 72) (kpF 72 1 hk2 (by rfl)) (kpF 72 3 hk2 (by rfl)) (fun o h1 h2 => kp_out (lo := 31) (hi := 34) hk2 (by rfl) (by decide) o h1 h2) h184)); (try have hz70 := (kpF 70 0 hk2 (by rfl)).trans q1.1.1); (try have hz72 := (kpF 72 0 hk2 (by rfl)).trans q1.1.2.1); (try have hnb := NBS_kp hk2 (by rfl) q0); (try have hnf := NBF_k hk2 (by rfl) q1); clear hk2))
         | (intro hc; (try simp only [cmp3_c] at hc); simp only [cmpI] at hc)
         | (show CI _; assumption)
         | intro (_ : Int)
         | intro (Z' : ZT)
         | intro (_ : CI _)
         | (intro (hkk : kp _ _ _))
         | intro (_ : _ ≤ _)
         | (intro (hup : _ = upZ _ _ _ _); (try dsimp only at hup))
         | (intro (hld : _ = _); (try dsimp only at hld); (try simp only [Nat.reduceAdd] at hld))
         | intro (_ : _ < _)
         | intro (_ : _ ≠ _)
         | intro (_ : _ ∨ _)))
  all_goals (have lp30 := loop 1000000)
  all_goals first
    | ((with_reducible show G 30 _ _ _); refine hG.2 30 _ [(0, vr 1), (1, vi a1), (2, vi a2), (3, vr 72), (4, vi _), (5, vi _)] _ _ rfl ?_)
    | ((fail_if_success (first | (with_reducible show _ ≤ _) | (with_reducible show _ = _) | (with_reducible show _ ∨ _) | (with_reducible show _ < _))); first | refine hG.2 30 _ [(0, vr 1), (1, vi a1), (2, vi a2), (3, vr 72), (4, vi _), (5, vi _)] _ _ rfl ?_)
    | skip
  all_goals first
    | with_reducible rfl
    | ((with_reducible show _ = _); rfl)
    | ((with_reducible show recvG _ _); rfl)
    | ((with_reducible show G 30 _ _ _); refine lp30 _ _ _ ?_ ?_ ?_ ?_; assumption; assumption; (refine ⟨?_, ?_, ?_, ?_, ?_, trivial⟩; (first | done | focus (first | (dsimp only; done) | ((try dsimp only); (first | omega | (refine ⟨?_, ?_⟩ <;> (first | omega | ((try dsimp only); (first | omega | (simp (disch := omega) only [w32_id, w64_id]; omega) | (simp only [w32, w64]; omega) | (with_reducible refine (and32_le ?_ ?_).1 <;> omega) | (with_reducible refine (and32_le ?_ ?_).2 <;> omega) | (with_reducible refine (mulR ?_ ?_ ?_ ?_).1 <;> omega) | (with_reducible refine (mulR ?_ ?_ ?_ ?_).2 <;> omega) | (simp only [w32, w64] at *; omega) | (simp (disch := omega) only [w32_id, w64_id] at *; omega) | (simp (disch := omega) only [tdiv_nn, tmod_nn, w32_id, w64_id] at *; omega) | (subst_vars; simp [upZ] at *; omega) | (subst_vars; simp [upZ] at *; simp only [w32, w64] at *; omega))) | fail)) | (first | omega | ((try dsimp only); (first | omega | (simp (disch := omega) only [w32_id, w64_id]; omega) | (simp only [w32, w64]; omega) | (with_reducible refine (and32_le ?_ ?_).1 <;> omega) | (with_reducible refine (and32_le ?_ ?_).2 <;> omega) | (with_reducible refine (mulR ?_ ?_ ?_ ?_).1 <;> omega) | (with_reducible refine (mulR ?_ ?_ ?_ ?_).2 <;> omega) | (simp only [w32, w64] at *; omega) | (simp (disch := omega) only [w32_id, w64_id] at *; omega) | (simp (disch := omega) only [tdiv_nn, tmod_nn, w32_id, w64_id] at *; omega) | (subst_vars; simp [upZ] at *; omega) | (subst_vars; simp [upZ] at *; simp only [w32, w64] at *; omega))) | fail) | fail)))); (first | done | focus (first | (dsimp only; done) | ((try dsimp only); ((first | with_reducible assumption | ((have hrk : _ ∧ NBB _ ∧ _ ≤ _ ∧ _ ≤ _ := (by assumption)); (have hnb2 := hrk.2.1); (have hdn := hrk.2.2); exact hnb2) | fail))))); (first | done | focus (first | (dsimp only; done) | ((try dsimp only); ((first | with_reducible assumption | ((have hrk : _ ∧ NBB _ ∧ _ ≤ _ ∧ _ ≤ _ := (by assumption)); (have hnb2 := hrk.2.1); (have hdn := hrk.2.2); exact RW_2 hnb2.2.1 hdn.2 hdn.1 rfl q1 hen h22 h29 hsl72) | fail))))); (first | done | focus (first | (dsimp only; done) | ((try dsimp only); ((first | exact rfl | (refine bt_y w3 (decide_eq_true ?_) rfl (by omega) (by first | omega | (simp (disch := omega) only [w32_id]; first | done | omega)); (rw [← hm_, ← hnu]; omega)) | (refine bt_n w3 (decide_eq_false ?_) (by omega) (by first | omega | (simp (disch := omega) only [w32_id]; first | done | omega)); (rw [← hm_, ← hnu]; omega)) | fail))))); (first | done | focus (first | (dsimp only; done) | ((try dsimp only); ((first | assumption | (refine ⟨⟨?_, ?_⟩, ?_, ?_⟩ <;> omega) | fail)))))); (first | omega | ((try dsimp only); (first | omega | (simp (disch := omega) only [w32_id, w64_id]; omega) | (simp only [w32, w64]; omega) | (with_reducible refine (and32_le ?_ ?_).1 <;> omega) | (with_reducible refine (and32_le ?_ ?_).2 <;> omega) | (with_reducible refine (mulR ?_ ?_ ?_ ?_).1 <;> omega) | (with_reducible refine (mulR ?_ ?_ ?_ ?_).2 <;> omega) | (simp only [w32, w64] at *; omega) | (simp (disch := omega) only [w32_id, w64_id] at *; omega) | (simp (disch := omega) only [tdiv_nn, tmod_nn, w32_id, w64_id] at *; omega) | (subst_vars; simp [upZ] at *; omega) | (subst_vars; simp [upZ] at *; simp only [w32, w64] at *; omega))) | fail))
    | with_reducible exact trivial
    | with_reducible assumption
    | ((with_reducible show NRW _ 2); exact hns1.2.1)
    | ((with_reducible show _ = _); first | exact hnf1.1.2.1)
    | ((with_reducible show _ < _); (show _ < (36 : Int)); omega)
    | ((with_reducible show _ ≤ _); (show _ ≤ (36 : Int)); omega)
    | ((fail_if_success (first | (with_reducible show _ ≤ _) | (with_reducible show _ = _) | (with_reducible show _ ∨ _) | (with_reducible show _ < _) | (with_reducible show G _ _ _ _))); (refine Exists.intro _ (Exists.intro _ (And.intro rfl (And.intro rfl ?_))); refine ⟨by assumption, by assumption, ?_⟩; (refine ⟨?_, ?_, trivial⟩; (first | done | focus (first | (dsimp only; done) | ((try dsimp only); ((first | (refine Or.inl ⟨?_, ?_⟩ <;> omega) | ((have e5 : v5 = 4 := by omega); subst e5; exact Or.inr ⟨w4, _, w2, w3⟩) | fail))))); (first | done | focus (first | (dsimp only; done) | ((try dsimp only); ((first | exact q2 | exact w1 | fail))))))))
    | ((fail_if_success (first | (with_reducible show _ ≤ _) | (with_reducible show _ = _) | (with_reducible show _ ∨ _) | (with_reducible show _ < _) | (with_reducible show G _ _ _ _))); (refine Exists.intro _ (Exists.intro _ (And.intro rfl (And.intro rfl ?_))); refine ⟨by assumption, by assumption, ?_⟩; simp only [Nat.reduceAdd] at *; (refine ⟨?_, ?_, trivial⟩; (first | done | focus (first | (dsimp only; done) | ((try dsimp only); ((first | (refine Or.inl ⟨?_, ?_⟩ <;> omega) | ((have e5 : v5 = 4 := by omega); subst e5; exact Or.inr ⟨w4, _, w2, w3⟩) | fail))))); (first | done | focus (first | (dsimp only; done) | ((try dsimp only); ((first | exact q2 | exact w1 | fail))))))))
    | omega
    | (dsimp only; omega)
    | decide
    | (show (0 : Int) < _; omega)
    | (show (0 : Int) < _; simp only [w64] at *; omega)
    | (simp only [w32, w64] at *; omega)
    | (first | omega | ((try dsimp only); (first | omega | (simp (disch := omega) only [w32_id, w64_id]; omega) | (simp only [w32, w64]; omega) | (with_reducible refine (and32_le ?_ ?_).1 <;> omega) | (with_reducible refine (and32_le ?_ ?_).2 <;> omega) | (with_reducible refine (mulR ?_ ?_ ?_ ?_).1 <;> omega) | (with_reducible refine (mulR ?_ ?_ ?_ ?_).2 <;> omega) | (simp only [w32, w64] at *; omega) | (simp (disch := omega) only [w32_id, w64_id] at *; omega) | (simp (disch := omega) only [tdiv_nn, tmod_nn, w32_id, w64_id] at *; omega) | (subst_vars; simp [upZ] at *; omega) | (subst_vars; simp [upZ] at *; simp only [w32, w64] at *; omega))) | fail)
    | ((with_reducible show swT _ _ _ _); exact trivial)
    | rfl
    | ((fail_if_success (first | (with_reducible show _ ≤ _) | (with_reducible show _ = _) | (with_reducible show _ ∨ _) | (with_reducible show _ < _) | (with_reducible show G _ _ _ _) | (with_reducible show Exists _))); exact trivial)
    | skip
