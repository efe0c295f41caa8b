/-! ===== the law: its cases ===== -/
abbrev MCL : Mc := (tb_L, PL, clL, oiN, 1, 0)
def QL (r : Option PV) (_ : St) : Prop := r = some (vi 1)
def liS (S : List Nat) : Bool := avo S 104 && (avo S 107 && (avo S 128 && (avo S 121 && (!(S.elem 100) && !(S.elem 31100)))))
theorem LI_av {S : List Nat} {Z Z' : ZT} (h : LI Z) (hI : CI Z') (hk : kp S Z Z') (hS : liS S = true) : LI Z' := by
  unfold liS at hS
  simp only [Bool.and_eq_true] at hS
  obtain ⟨h1, h2, h3, h4, h5, h6⟩ := hS
  have e4 := kp_av hk h1 (by decide)
  have e7 := kp_av hk h2 (by decide)
  have e8 := kp_av hk h3 (by decide)
  have e1 := kp_av hk h4 (by decide)
  have e30 : Z' 100 30 = Z 100 30 := hk 100 30 (by decide) (by simpa using h5) (by simpa using h6)
  exact ⟨hI, E1_eq e4 e7 h.2.1, EB_o e8 h.2.2.1, KB_o e1 h.2.2.2.1, KE_c e1 h.2.2.2.2 (Int.le_of_eq e30)⟩
/-- all but what lies on the lines -/
theorem LI_e1 {S : List Nat} {Z Z' : ZT} (h : LI Z) (hI : CI Z') (hk : kp S Z Z') (hE : E1 Z') (hS : (avo S 128 && (avo S 121 && (!(S.elem 100) && !(S.elem 31100)))) = true) : LI Z' := by
  simp only [Bool.and_eq_true] at hS
  obtain ⟨h3, h4, h5, h6⟩ := hS
  have e8 := kp_av hk h3 (by decide)
  have e1 := kp_av hk h4 (by decide)
  have e30 : Z' 100 30 = Z 100 30 := hk 100 30 (by decide) (by simpa using h5) (by simpa using h6)
  exact ⟨hI, hE, EB_o e8 h.2.2.1, KB_o e1 h.2.2.2.1, KE_c e1 h.2.2.2.2 (Int.le_of_eq e30)⟩
/-- all but the minutes -/
theorem LI_eb {S : List Nat} {Z Z' : ZT} (h : LI Z) (hI : CI Z') (hk : kp S Z Z') (hE : EB Z') (hS : (avo S 104 && (avo S 107 && (avo S 121 && (!(S.elem 100) && !(S.elem 31100))))) = true) : LI Z' := by
  simp only [Bool.and_eq_true] at hS
  obtain ⟨h3, h2, h4, h5, h6⟩ := hS
  have e4 := kp_av hk h3 (by decide)
  have e7 := kp_av hk h2 (by decide)
  have e1 := kp_av hk h4 (by decide)
  have e30 : Z' 100 30 = Z 100 30 := hk 100 30 (by decide) (by simpa using h5) (by simpa using h6)
  exact ⟨hI, E1_eq e4 e7 h.2.1, hE, KB_o e1 h.2.2.2.1, KE_c e1 h.2.2.2.2 (Int.le_of_eq e30)⟩
/-- what is kept, brought back -/
theorem LI_k {S : List Nat} {Z Z' : ZT} (h : LI Z) (hI : CI Z') (hk : kp S Z Z') (hB : KB Z') (hE : E1 Z') (hK : KE Z') (hS : avo S 128 = true) : LI Z' := ⟨hI, hE, EB_o (kp_av hk hS (by decide)) h.2.2.1, hB, hK⟩
/-- what is kept is dropped, perhaps -/
theorem LI_sky {S : List Nat} {Z Z' : ZT} (h : LI Z) (hI : CI Z') (hk : kp S Z Z') (hq : Z' 100 30 = Z 100 30 ∨ Z' 100 30 = 0) (hS : (avo S 104 && (avo S 107 && (avo S 128 && avo S 121))) = true) : LI Z' := by
  simp only [Bool.and_eq_true] at hS
  obtain ⟨h1, h2, h3, h4⟩ := hS
  have e4 := kp_av hk h1 (by decide)
  have e7 := kp_av hk h2 (by decide)
  have e8 := kp_av hk h3 (by decide)
  have e1 := kp_av hk h4 (by decide)
  have q := h.1 100 30 0 2 rfl
  exact ⟨hI, E1_eq e4 e7 h.2.1, EB_o e8 h.2.2.1, KB_o e1 h.2.2.2.1, KE_c e1 h.2.2.2.2 (by omega)⟩
theorem sx {L : Nat} {i k x : Int} (h : 0 ≤ i ∧ i + 7 ≤ (L : Int)) (hL : L ≤ 3584) (hk : 0 ≤ k ∧ k ≤ 6) (hx : x = w32 (i + k)) : 0 ≤ x ∧ x < (L : Int) := by
  subst hx
  rw [w32_id (by omega) (by omega)]
  omega
/-- paces -/
def RC_pc (Z : ZT) : Prop := ∀ k : Nat, k < 6 → Z 87 k = Z 119 k
theorem RC_pc_av {S : List Nat} {Z Z' : ZT} (hk : kp S Z Z') (hS : (avo S 87 && avo S 119) = true) (h : RC_pc Z) : RC_pc Z' := by
  simp only [Bool.and_eq_true, Bool.not_eq_true'] at hS
  obtain ⟨h0, h1⟩ := hS
  have e0 : Z' 87 = Z 87 := kp_av hk h0 (by decide)
  have e1 : Z' 119 = Z 119 := kp_av hk h1 (by decide)
  unfold RC_pc at h ⊢
  simp only [e0, e1]
  exact h
theorem cu_row {Z ZA ZB : ZT} {oA oB n : Nat} {i v xA xB bad : Int} {c d : Prop} (h : ∀ k : Nat, k < n → Z oA k = Z oB k) (pA : xA = bad ∧ ¬c ∧ ZA oA = Z oA ∨ xA = Z oA i.toNat ∧ c ∧ ZA oA = upZ Z oA i.toNat v oA) (pB : xB = bad ∧ ¬d ∧ ZB oB = ZA oB ∨ xB = ZA oB i.toNat ∧ d ∧ ZB oB = upZ ZA oB i.toNat v oB) (fA : ZA oB = Z oB) (fB : ZB oA = ZA oA) (hcd : c ↔ d) (hb : c → i.toNat < n) : xA = xB ∧ ∀ k : Nat, k < n → ZB oA k = ZB oB k := by
  rcases pA with ⟨a1, a2, a3⟩ | ⟨a1, a2, a3⟩
  · rcases pB with ⟨b1, b2, b3⟩ | ⟨b1, b2, b3⟩
    · refine ⟨a1.trans b1.symm, fun k hk => ?_⟩
      rw [fB, a3, b3, fA]
      exact h k hk
    · exact absurd (hcd.mpr b2) a2
  · rcases pB with ⟨b1, b2, b3⟩ | ⟨b1, b2, b3⟩
    · exact absurd (hcd.mp a2) b2
    · refine ⟨?_, fun k hk => ?_⟩
      · rw [a1, b1, fA]
        exact h _ (hb a2)
      · rw [fB, a3, b3]
        by_cases hq : k = i.toNat
        · rw [hq, up_eq, up_eq]
        · rw [up_nk hq, up_nk hq, fA]
          exact h k hk
/-- what class and reference have alike between calls -/
def RLX (Z : ZT) : Prop := RC_pc Z ∧ True
set_option maxRecDepth 100000 in
set_option maxHeartbeats 40000000 in
theorem lc_0 {L : Nat} {xs : Nat → Int} {G : GT} (hG : Clo MCL 130 (some (L, xs)) QL G) {i : Int} (hi : 0 ≤ i ∧ i + 7 ≤ (L : Int)) (hL : L ≤ 3584) {Z : ZT} (hZ : LI Z) (hR : RLX Z) (hE : ∀ Z1, LI Z1 → RLX Z1 → G 1299 [(0, vr 0), (1, vr 1), (2, vr 100), (3, vi i)] [] (130, Z1, R0)) : G 180 [(0, vr 0), (1, vr 1), (2, vr 100), (3, vi i)] [] (130, Z, R0) := by
  obtain ⟨h_pc, -⟩ := hR
  have o_pc := h_pc
  refine wp_run hG [1299] 200 _ _ _ _ ?_
  repeat' (first
    | with_reducible rfl
    | refine And.intro ?_ ?_
    | (intro (r : Option PV) σ' hq
       first
       | (obtain ⟨rfl, rfl⟩ := hq)
       | (obtain ⟨rfl, x, rfl, hp⟩ := hq; (try replace hp : _ ∧ _ := hp); (try dsimp only at hp))
       | (obtain ⟨Z', x, rfl, rfl, hI2, hk2, hp⟩ := hq; (try replace hp : _ ∧ _ := hp); (try dsimp only at hp); (first | have hk3 := kp_of hk2 | have hk3 := hk2); (first | have hZ := LI_av hZ hI2 hk3 (by rfl) | have hZ := LI_sky hZ hI2 hk3 hp.2.1 (by rfl) | skip); (first | have h_pc := RC_pc_av hk3 (by rfl) h_pc | skip))
       | (obtain ⟨Z', x, rfl, rfl, hI2, hk2⟩ := hq; (first | have hk3 := kp_of hk2 | have hk3 := hk2); (first | have hZ := LI_av hZ hI2 hk3 (by rfl) | have hZ := LI_sky hZ hI2 hk3 hp.2.1 (by rfl) | skip); (first | have h_pc := RC_pc_av hk3 (by rfl) h_pc | skip))
       | (rcases hq with ⟨Z', rfl, rfl, hI2, hk2⟩ | ⟨Z', rfl, rfl, hI2, hk2⟩ <;> ((first | have hk3 := kp_of hk2 | have hk3 := hk2); (first | have hZ := LI_av hZ hI2 hk3 (by rfl) | have hZ := LI_sky hZ hI2 hk3 hp.2.1 (by rfl) | skip); (first | have h_pc := RC_pc_av hk3 (by rfl) h_pc | skip)))
       | (obtain ⟨Z', rfl, rfl, hI2, hk2, hp⟩ := hq; (first | have hk3 := kp_of hk2 | have hk3 := hk2); (first | have hZ := LI_av hZ hI2 hk3 (by rfl) | have hZ := LI_sky hZ hI2 hk3 hp.2.1 (by rfl) | skip); (first | have h_pc := RC_pc_av hk3 (by rfl) h_pc | skip))
       | (obtain ⟨Z', rfl, rfl, hI2, hk2⟩ := hq; (first | have hk3 := kp_of hk2 | have hk3 := hk2); (first | have hZ := LI_av hZ hI2 hk3 (by rfl) | have hZ := LI_sky hZ hI2 hk3 hp.2.1 (by rfl) | skip); (first | have h_pc := RC_pc_av hk3 (by rfl) h_pc | skip)))
    | (intro hc; (try simp only [cmp3_c] at hc); simp only [cmpI] at hc))
  all_goals first
    | with_reducible rfl
    | ((with_reducible show recvG _ _); rfl)
    | with_reducible exact trivial
    | ((with_reducible show CI _); exact hZ.1)
    | ((with_reducible show E1 _); exact hZ.2.1)
    | ((with_reducible show EB _); exact hZ.2.2.1)
    | ((with_reducible show KB _); exact hZ.2.2.2.1)
    | ((with_reducible show KE _); exact hZ.2.2.2.2)
    | (refine hG.2 1299 _ [(0, vr 0), (1, vr 1), (2, vr 100), (3, vi i)] _ _ rfl ?_; exact hE _ hZ ⟨(by assumption), trivial⟩)
    | decide
    | (refine (sx hi hL (k := 0) (by decide) ?_).1; simp (disch := omega) only [w32_id]; omega)
    | (with_reducible refine (sx hi hL ?_ rfl).1; decide)
    | (with_reducible refine (sx hi hL ?_ rfl).2; decide)
    | omega
    | (exfalso; omega)
    | rfl
    | skip

set_option maxRecDepth 100000 in
set_option maxHeartbeats 40000000 in
theorem lc_1 {L : Nat} {xs : Nat → Int} {G : GT} (hG : Clo MCL 130 (some (L, xs)) QL G) {i : Int} (hi : 0 ≤ i ∧ i + 7 ≤ (L : Int)) (hL : L ≤ 3584) {Z : ZT} (hZ : LI Z) (hR : RLX Z) (hE : ∀ Z1, LI Z1 → RLX Z1 → G 1299 [(0, vr 0), (1, vr 1), (2, vr 100), (3, vi i)] [] (130, Z1, R0)) : G 213 [(0, vr 0), (1, vr 1), (2, vr 100), (3, vi i)] [] (130, Z, R0) := by
  obtain ⟨h_pc, -⟩ := hR
  have o_pc := h_pc
  refine wp_run hG [1299] 200 _ _ _ _ ?_
  repeat' (first
    | with_reducible rfl
    | refine And.intro ?_ ?_
    | (intro (r : Option PV) σ' hq
       first
       | (obtain ⟨rfl, rfl⟩ := hq)
       | (obtain ⟨rfl, x, rfl, hp⟩ := hq; (try replace hp : _ ∧ _ := hp); (try dsimp only at hp))
       | (obtain ⟨Z', x, rfl, rfl, hI2, hk2, hp⟩ := hq; (try replace hp : _ ∧ _ := hp); (try dsimp only at hp); (first | have hk3 := kp_of hk2 | have hk3 := hk2); (first | have hZ := LI_av hZ hI2 hk3 (by rfl) | skip); (first | have h_pc := RC_pc_av hk3 (by rfl) h_pc | skip))
       | (obtain ⟨Z', x, rfl, rfl, hI2, hk2⟩ := hq; (first | have hk3 := kp_of hk2 | have hk3 := hk2); (first | have hZ := LI_av hZ hI2 hk3 (by rfl) | skip); (first | have h_pc := RC_pc_av hk3 (by rfl) h_pc | skip))
       | (rcases hq with ⟨Z', rfl, rfl, hI2, hk2⟩ | ⟨Z', rfl, rfl, hI2, hk2⟩ <;> ((first | have hk3 := kp_of hk2 | have hk3 := hk2); (first | have hZ := LI_av hZ hI2 hk3 (by rfl) | skip); (first | have h_pc := RC_pc_av hk3 (by rfl) h_pc | skip)))
       | (obtain ⟨Z', rfl, rfl, hI2, hk2, hp⟩ := hq; (first | have hk3 := kp_of hk2 | have hk3 := hk2); (first | have hZ := LI_av hZ hI2 hk3 (by rfl) | skip); (first | have h_pc := RC_pc_av hk3 (by rfl) h_pc | skip))
       | (obtain ⟨Z', rfl, rfl, hI2, hk2⟩ := hq; (first | have hk3 := kp_of hk2 | have hk3 := hk2); (first | have hZ := LI_av hZ hI2 hk3 (by rfl) | skip); (first | have h_pc := RC_pc_av hk3 (by rfl) h_pc | skip)))
    | (intro hc; (try simp only [cmp3_c] at hc); simp only [cmpI] at hc))
  all_goals first
    | with_reducible rfl
    | ((with_reducible show recvG _ _); rfl)
    | with_reducible exact trivial
    | ((with_reducible show CI _); exact hZ.1)
    | ((with_reducible show E1 _); exact hZ.2.1)
    | ((with_reducible show EB _); exact hZ.2.2.1)
    | ((with_reducible show KB _); exact hZ.2.2.2.1)
    | ((with_reducible show KE _); exact hZ.2.2.2.2)
    | (refine hG.2 1299 _ [(0, vr 0), (1, vr 1), (2, vr 100), (3, vi i)] _ _ rfl ?_; exact hE _ hZ ⟨(by assumption), trivial⟩)
    | decide
    | (refine (sx hi hL (k := 0) (by decide) ?_).1; simp (disch := omega) only [w32_id]; omega)
    | (with_reducible refine (sx hi hL ?_ rfl).1; decide)
    | (with_reducible refine (sx hi hL ?_ rfl).2; decide)
    | omega
    | (exfalso; omega)
    | rfl
    | skip

set_option maxRecDepth 100000 in
set_option maxHeartbeats 40000000 in
theorem lc_2 {L : Nat} {xs : Nat → Int} {G : GT} (hG : Clo MCL 130 (some (L, xs)) QL G) {i : Int} (hi : 0 ≤ i ∧ i + 7 ≤ (L : Int)) (hL : L ≤ 3584) {Z : ZT} (hZ : LI Z) (hR : RLX Z) (hE : ∀ Z1, LI Z1 → RLX Z1 → G 1299 [(0, vr 0), (1, vr 1), (2, vr 100), (3, vi i)] [] (130, Z1, R0)) : G 246 [(0, vr 0), (1, vr 1), (2, vr 100), (3, vi i)] [] (130, Z, R0) := by
  obtain ⟨h_pc, -⟩ := hR
  have o_pc := h_pc
  refine wp_run hG [1299] 200 _ _ _ _ ?_
  repeat' (first
    | with_reducible rfl
    | refine And.intro ?_ ?_
    | (intro (r : Option PV) σ' hq
       first
       | (obtain ⟨rfl, rfl⟩ := hq)
       | (obtain ⟨rfl, x, rfl, hp⟩ := hq; (try replace hp : _ ∧ _ := hp); (try dsimp only at hp))
       | (obtain ⟨Z', x, rfl, rfl, hI2, hk2, hp⟩ := hq; (try replace hp : _ ∧ _ := hp); (try dsimp only at hp); (first | have hk3 := kp_of hk2 | have hk3 := hk2); (first | have hZ := LI_av hZ hI2 hk3 (by rfl) | skip); (first | have h_pc := RC_pc_av hk3 (by rfl) h_pc | skip))
       | (obtain ⟨Z', x, rfl, rfl, hI2, hk2⟩ := hq; (first | have hk3 := kp_of hk2 | have hk3 := hk2); (first | have hZ := LI_av hZ hI2 hk3 (by rfl) | skip); (first | have h_pc := RC_pc_av hk3 (by rfl) h_pc | skip))
       | (rcases hq with ⟨Z', rfl, rfl, hI2, hk2⟩ | ⟨Z', rfl, rfl, hI2, hk2⟩ <;> ((first | have hk3 := kp_of hk2 | have hk3 := hk2); (first | have hZ := LI_av hZ hI2 hk3 (by rfl) | skip); (first | have h_pc := RC_pc_av hk3 (by rfl) h_pc | skip)))
       | (obtain ⟨Z', rfl, rfl, hI2, hk2, hp⟩ := hq; (first | have hk3 := kp_of hk2 | have hk3 := hk2); (first | have hZ := LI_av hZ hI2 hk3 (by rfl) | skip); (first | have h_pc := RC_pc_av hk3 (by rfl) h_pc | skip))
       | (obtain ⟨Z', rfl, rfl, hI2, hk2⟩ := hq; (first | have hk3 := kp_of hk2 | have hk3 := hk2); (first | have hZ := LI_av hZ hI2 hk3 (by rfl) | skip); (first | have h_pc := RC_pc_av hk3 (by rfl) h_pc | skip)))
    | (intro hc; (try simp only [cmp3_c] at hc); simp only [cmpI] at hc))
  all_goals first
    | with_reducible rfl
    | ((with_reducible show recvG _ _); rfl)
    | with_reducible exact trivial
    | ((with_reducible show CI _); exact hZ.1)
    | ((with_reducible show E1 _); exact hZ.2.1)
    | ((with_reducible show EB _); exact hZ.2.2.1)
    | ((with_reducible show KB _); exact hZ.2.2.2.1)
    | ((with_reducible show KE _); exact hZ.2.2.2.2)
    | (refine hG.2 1299 _ [(0, vr 0), (1, vr 1), (2, vr 100), (3, vi i)] _ _ rfl ?_; exact hE _ hZ ⟨(by assumption), trivial⟩)
    | decide
    | (refine (sx hi hL (k := 0) (by decide) ?_).1; simp (disch := omega) only [w32_id]; omega)
    | (with_reducible refine (sx hi hL ?_ rfl).1; decide)
    | (with_reducible refine (sx hi hL ?_ rfl).2; decide)
    | omega
    | (exfalso; omega)
    | rfl
    | skip

set_option maxRecDepth 100000 in
set_option maxHeartbeats 40000000 in
theorem lc_3 {L : Nat} {xs : Nat → Int} {G : GT} (hG : Clo MCL 130 (some (L, xs)) QL G) {i : Int} (hi : 0 ≤ i ∧ i + 7 ≤ (L : Int)) (hL : L ≤ 3584) {Z : ZT} (hZ : LI Z) (hR : RLX Z) (hE : ∀ Z1, LI Z1 → RLX Z1 → G 1299 [(0, vr 0), (1, vr 1), (2, vr 100), (3, vi i)] [] (130, Z1, R0)) : G 279 [(0, vr 0), (1, vr 1), (2, vr 100), (3, vi i)] [] (130, Z, R0) := by
  obtain ⟨h_pc, -⟩ := hR
  have o_pc := h_pc
  refine wp_run hG [1299] 200 _ _ _ _ ?_
  repeat' (first
    | with_reducible rfl
    | refine And.intro ?_ ?_
    | (intro (r : Option PV) σ' hq
       first
       | (obtain ⟨rfl, rfl⟩ := hq)
       | (obtain ⟨rfl, x, rfl, hp⟩ := hq; (try replace hp : _ ∧ _ := hp); (try dsimp only at hp))
       | (obtain ⟨Z', x, rfl, rfl, hI2, hk2, hp⟩ := hq; (try replace hp : _ ∧ _ := hp); (try dsimp only at hp); (first | have hk3 := kp_of hk2 | have hk3 := hk2); (first | have hZ := LI_av hZ hI2 hk3 (by rfl) | skip); (first | have h_pc := RC_pc_av hk3 (by rfl) h_pc | skip))
       | (obtain ⟨Z', x, rfl, rfl, hI2, hk2⟩ := hq; (first | have hk3 := kp_of hk2 | have hk3 := hk2); (first | have hZ := LI_av hZ hI2 hk3 (by rfl) | skip); (first | have h_pc := RC_pc_av hk3 (by rfl) h_pc | skip))
       | (rcases hq with ⟨Z', rfl, rfl, hI2, hk2⟩ | ⟨Z', rfl, rfl, hI2, hk2⟩ <;> ((first | have hk3 := kp_of hk2 | have hk3 := hk2); (first | have hZ := LI_av hZ hI2 hk3 (by rfl) | skip); (first | have h_pc := RC_pc_av hk3 (by rfl) h_pc | skip)))
       | (obtain ⟨Z', rfl, rfl, hI2, hk2, hp⟩ := hq; (first | have hk3 := kp_of hk2 | have hk3 := hk2); (first | have hZ := LI_av hZ hI2 hk3 (by rfl) | skip); (first | have h_pc := RC_pc_av hk3 (by rfl) h_pc | skip))
       | (obtain ⟨Z', rfl, rfl, hI2, hk2⟩ := hq; (first | have hk3 := kp_of hk2 | have hk3 := hk2); (first | have hZ := LI_av hZ hI2 hk3 (by rfl) | skip); (first | have h_pc := RC_pc_av hk3 (by rfl) h_pc | skip)))
    | (intro hc; (try simp only [cmp3_c] at hc); simp only [cmpI] at hc))
  all_goals first
    | with_reducible rfl
    | ((with_reducible show recvG _ _); rfl)
    | with_reducible exact trivial
    | ((with_reducible show CI _); exact hZ.1)
    | ((with_reducible show E1 _); exact hZ.2.1)
    | ((with_reducible show EB _); exact hZ.2.2.1)
    | ((with_reducible show KB _); exact hZ.2.2.2.1)
    | ((with_reducible show KE _); exact hZ.2.2.2.2)
    | (refine hG.2 1299 _ [(0, vr 0), (1, vr 1), (2, vr 100), (3, vi i)] _ _ rfl ?_; exact hE _ hZ ⟨(by assumption), trivial⟩)
    | decide
    | (refine (sx hi hL (k := 0) (by decide) ?_).1; simp (disch := omega) only [w32_id]; omega)
    | (with_reducible refine (sx hi hL ?_ rfl).1; decide)
    | (with_reducible refine (sx hi hL ?_ rfl).2; decide)
    | omega
    | (exfalso; omega)
    | rfl
    | skip

set_option maxRecDepth 100000 in
set_option maxHeartbeats 40000000 in
theorem lc_4 {L : Nat} {xs : Nat → Int} {G : GT} (hG : Clo MCL 130 (some (L, xs)) QL G) {i : Int} (hi : 0 ≤ i ∧ i + 7 ≤ (L : Int)) (hL : L ≤ 3584) {Z : ZT} (hZ : LI Z) (hR : RLX Z) (hE : ∀ Z1, LI Z1 → RLX Z1 → G 1299 [(0, vr 0), (1, vr 1), (2, vr 100), (3, vi i)] [] (130, Z1, R0)) : G 342 [(0, vr 0), (1, vr 1), (2, vr 100), (3, vi i)] [] (130, Z, R0) := by
  obtain ⟨h_pc, -⟩ := hR
  have o_pc := h_pc
  refine wp_run hG [1299] 200 _ _ _ _ ?_
  repeat' (first
    | with_reducible rfl
    | refine And.intro ?_ ?_
    | (intro (r : Option PV) σ' hq
       first
       | (obtain ⟨rfl, rfl⟩ := hq)
       | (obtain ⟨rfl, x, rfl, hp⟩ := hq; (try replace hp : _ ∧ _ := hp); (try dsimp only at hp))
       | (obtain ⟨Z', x, rfl, rfl, hI2, hk2, hp⟩ := hq; (try replace hp : _ ∧ _ := hp); (try dsimp only at hp); (first | have hk3 := kp_of hk2 | have hk3 := hk2); (first | have hZ := LI_av hZ hI2 hk3 (by rfl) | skip); (first | have h_pc := RC_pc_av hk3 (by rfl) h_pc | skip))
       | (obtain ⟨Z', x, rfl, rfl, hI2, hk2⟩ := hq; (first | have hk3 := kp_of hk2 | have hk3 := hk2); (first | have hZ := LI_av hZ hI2 hk3 (by rfl) | skip); (first | have h_pc := RC_pc_av hk3 (by rfl) h_pc | skip))
       | (rcases hq with ⟨Z', rfl, rfl, hI2, hk2⟩ | ⟨Z', rfl, rfl, hI2, hk2⟩ <;> ((first | have hk3 := kp_of hk2 | have hk3 := hk2); (first | have hZ := LI_av hZ hI2 hk3 (by rfl) | skip); (first | have h_pc := RC_pc_av hk3 (by rfl) h_pc | skip)))
       | (obtain ⟨Z', rfl, rfl, hI2, hk2, hp⟩ := hq; (first | have hk3 := kp_of hk2 | have hk3 := hk2); (first | have hZ := LI_av hZ hI2 hk3 (by rfl) | skip); (first | have h_pc := RC_pc_av hk3 (by rfl) h_pc | skip))
       | (obtain ⟨Z', rfl, rfl, hI2, hk2⟩ := hq; (first | have hk3 := kp_of hk2 | have hk3 := hk2); (first | have hZ := LI_av hZ hI2 hk3 (by rfl) | skip); (first | have h_pc := RC_pc_av hk3 (by rfl) h_pc | skip)))
    | (intro hc; (try simp only [cmp3_c] at hc); simp only [cmpI] at hc))
  all_goals first
    | with_reducible rfl
    | ((with_reducible show recvG _ _); rfl)
    | with_reducible exact trivial
    | ((with_reducible show CI _); exact hZ.1)
    | ((with_reducible show E1 _); exact hZ.2.1)
    | ((with_reducible show EB _); exact hZ.2.2.1)
    | ((with_reducible show KB _); exact hZ.2.2.2.1)
    | ((with_reducible show KE _); exact hZ.2.2.2.2)
    | (refine hG.2 1299 _ [(0, vr 0), (1, vr 1), (2, vr 100), (3, vi i)] _ _ rfl ?_; exact hE _ hZ ⟨(by assumption), trivial⟩)
    | decide
    | (refine (sx hi hL (k := 0) (by decide) ?_).1; simp (disch := omega) only [w32_id]; omega)
    | (with_reducible refine (sx hi hL ?_ rfl).1; decide)
    | (with_reducible refine (sx hi hL ?_ rfl).2; decide)
    | omega
    | (exfalso; omega)
    | rfl
    | skip

set_option maxRecDepth 100000 in
set_option maxHeartbeats 40000000 in
theorem lc_5 {L : Nat} {xs : Nat → Int} {G : GT} (hG : Clo MCL 130 (some (L, xs)) QL G) {i : Int} (hi : 0 ≤ i ∧ i + 7 ≤ (L : Int)) (hL : L ≤ 3584) {Z : ZT} (hZ : LI Z) (hR : RLX Z) (hE : ∀ Z1, LI Z1 → RLX Z1 → G 1299 [(0, vr 0), (1, vr 1), (2, vr 100), (3, vi i)] [] (130, Z1, R0)) : G 355 [(0, vr 0), (1, vr 1), (2, vr 100), (3, vi i)] [] (130, Z, R0) := by
  obtain ⟨h_pc, -⟩ := hR
  have o_pc := h_pc
  refine wp_run hG [1299] 200 _ _ _ _ ?_
  repeat' (first
    | with_reducible rfl
    | refine And.intro ?_ ?_
    | (intro (r : Option PV) σ' hq
       first
       | (obtain ⟨rfl, rfl⟩ := hq)
       | (obtain ⟨rfl, x, rfl, hp⟩ := hq; (try replace hp : _ ∧ _ := hp); (try dsimp only at hp))
       | (obtain ⟨Z', x, rfl, rfl, hI2, hk2, hp⟩ := hq; (try replace hp : _ ∧ _ := hp); (try dsimp only at hp); (first | have hk3 := kp_of hk2 | have hk3 := hk2); (first | have hZ := LI_av hZ hI2 hk3 (by rfl) | have hZ := LI_e1 hZ hI2 hk3 hp.1 (by rfl) | skip); (first | have h_pc := RC_pc_av hk3 (by rfl) h_pc | skip))
       | (obtain ⟨Z', x, rfl, rfl, hI2, hk2⟩ := hq; (first | have hk3 := kp_of hk2 | have hk3 := hk2); (first | have hZ := LI_av hZ hI2 hk3 (by rfl) | have hZ := LI_e1 hZ hI2 hk3 hp.1 (by rfl) | skip); (first | have h_pc := RC_pc_av hk3 (by rfl) h_pc | skip))
       | (rcases hq with ⟨Z', rfl, rfl, hI2, hk2⟩ | ⟨Z', rfl, rfl, hI2, hk2⟩ <;> ((first | have hk3 := kp_of hk2 | have hk3 := hk2); (first | have hZ := LI_av hZ hI2 hk3 (by rfl) | have hZ := LI_e1 hZ hI2 hk3 hp.1 (by rfl) | skip); (first | have h_pc := RC_pc_av hk3 (by rfl) h_pc | skip)))
       | (obtain ⟨Z', rfl, rfl, hI2, hk2, hp⟩ := hq; (first | have hk3 := kp_of hk2 | have hk3 := hk2); (first | have hZ := LI_av hZ hI2 hk3 (by rfl) | have hZ := LI_e1 hZ hI2 hk3 hp.1 (by rfl) | skip); (first | have h_pc := RC_pc_av hk3 (by rfl) h_pc | skip))
       | (obtain ⟨Z', rfl, rfl, hI2, hk2⟩ := hq; (first | have hk3 := kp_of hk2 | have hk3 := hk2); (first | have hZ := LI_av hZ hI2 hk3 (by rfl) | have hZ := LI_e1 hZ hI2 hk3 hp.1 (by rfl) | skip); (first | have h_pc := RC_pc_av hk3 (by rfl) h_pc | skip)))
    | (intro hc; (try simp only [cmp3_c] at hc); simp only [cmpI] at hc))
  all_goals first
    | with_reducible rfl
    | ((with_reducible show recvG _ _); rfl)
    | with_reducible exact trivial
    | ((with_reducible show CI _); exact hZ.1)
    | ((with_reducible show E1 _); exact hZ.2.1)
    | ((with_reducible show EB _); exact hZ.2.2.1)
    | ((with_reducible show KB _); exact hZ.2.2.2.1)
    | ((with_reducible show KE _); exact hZ.2.2.2.2)
    | (refine hG.2 1299 _ [(0, vr 0), (1, vr 1), (2, vr 100), (3, vi i)] _ _ rfl ?_; exact hE _ hZ ⟨(by assumption), trivial⟩)
    | decide
    | (refine (sx hi hL (k := 0) (by decide) ?_).1; simp (disch := omega) only [w32_id]; omega)
    | (with_reducible refine (sx hi hL ?_ rfl).1; decide)
    | (with_reducible refine (sx hi hL ?_ rfl).2; decide)
    | omega
    | (exfalso; omega)
    | rfl
    | skip

set_option maxRecDepth 100000 in
set_option maxHeartbeats 40000000 in
theorem lc_6 {L : Nat} {xs : Nat → Int} {G : GT} (hG : Clo MCL 130 (some (L, xs)) QL G) {i : Int} (hi : 0 ≤ i ∧ i + 7 ≤ (L : Int)) (hL : L ≤ 3584) {Z : ZT} (hZ : LI Z) (hR : RLX Z) (hE : ∀ Z1, LI Z1 → RLX Z1 → G 1299 [(0, vr 0), (1, vr 1), (2, vr 100), (3, vi i)] [] (130, Z1, R0)) : G 368 [(0, vr 0), (1, vr 1), (2, vr 100), (3, vi i)] [] (130, Z, R0) := by
  obtain ⟨h_pc, -⟩ := hR
  have o_pc := h_pc
  refine wp_run hG [1299] 200 _ _ _ _ ?_
  repeat' (first
    | with_reducible rfl
    | refine And.intro ?_ ?_
    | (intro (r : Option PV) σ' hq
       first
       | (obtain ⟨rfl, rfl⟩ := hq)
       | (obtain ⟨rfl, x, rfl, hp⟩ := hq; (try replace hp : _ ∧ _ := hp); (try dsimp only at hp))
       | (obtain ⟨Z', x, rfl, rfl, hI2, hk2, hp⟩ := hq; (try replace hp : _ ∧ _ := hp); (try dsimp only at hp); (first | have hk3 := kp_of hk2 | have hk3 := hk2); (first | have hZ := LI_av hZ hI2 hk3 (by rfl) | have hZ := LI_e1 hZ hI2 hk3 hp.1 (by rfl) | skip); (first | have h_pc := RC_pc_av hk3 (by rfl) h_pc | skip))
       | (obtain ⟨Z', x, rfl, rfl, hI2, hk2⟩ := hq; (first | have hk3 := kp_of hk2 | have hk3 := hk2); (first | have hZ := LI_av hZ hI2 hk3 (by rfl) | have hZ := LI_e1 hZ hI2 hk3 hp.1 (by rfl) | skip); (first | have h_pc := RC_pc_av hk3 (by rfl) h_pc | skip))
       | (rcases hq with ⟨Z', rfl, rfl, hI2, hk2⟩ | ⟨Z', rfl, rfl, hI2, hk2⟩ <;> ((first | have hk3 := kp_of hk2 | have hk3 := hk2); (first | have hZ := LI_av hZ hI2 hk3 (by rfl) | have hZ := LI_e1 hZ hI2 hk3 hp.1 (by rfl) | skip); (first | have h_pc := RC_pc_av hk3 (by rfl) h_pc | skip)))
       | (obtain ⟨Z', rfl, rfl, hI2, hk2, hp⟩ := hq; (first | have hk3 := kp_of hk2 | have hk3 := hk2); (first | have hZ := LI_av hZ hI2 hk3 (by rfl) | have hZ := LI_e1 hZ hI2 hk3 hp.1 (by rfl) | skip); (first | have h_pc := RC_pc_av hk3 (by rfl) h_pc | skip))
       | (obtain ⟨Z', rfl, rfl, hI2, hk2⟩ := hq; (first | have hk3 := kp_of hk2 | have hk3 := hk2); (first | have hZ := LI_av hZ hI2 hk3 (by rfl) | have hZ := LI_e1 hZ hI2 hk3 hp.1 (by rfl) | skip); (first | have h_pc := RC_pc_av hk3 (by rfl) h_pc | skip)))
    | (intro hc; (try simp only [cmp3_c] at hc); simp only [cmpI] at hc))
  all_goals first
    | with_reducible rfl
    | ((with_reducible show recvG _ _); rfl)
    | with_reducible exact trivial
    | ((with_reducible show CI _); exact hZ.1)
    | ((with_reducible show E1 _); exact hZ.2.1)
    | ((with_reducible show EB _); exact hZ.2.2.1)
    | ((with_reducible show KB _); exact hZ.2.2.2.1)
    | ((with_reducible show KE _); exact hZ.2.2.2.2)
    | (refine hG.2 1299 _ [(0, vr 0), (1, vr 1), (2, vr 100), (3, vi i)] _ _ rfl ?_; exact hE _ hZ ⟨(by assumption), trivial⟩)
    | decide
    | (refine (sx hi hL (k := 0) (by decide) ?_).1; simp (disch := omega) only [w32_id]; omega)
    | (with_reducible refine (sx hi hL ?_ rfl).1; decide)
    | (with_reducible refine (sx hi hL ?_ rfl).2; decide)
    | omega
    | (exfalso; omega)
    | rfl
    | skip

set_option maxRecDepth 100000 in
set_option maxHeartbeats 40000000 in
theorem lc_7 {L : Nat} {xs : Nat → Int} {G : GT} (hG : Clo MCL 130 (some (L, xs)) QL G) {i : Int} (hi : 0 ≤ i ∧ i + 7 ≤ (L : Int)) (hL : L ≤ 3584) {Z : ZT} (hZ : LI Z) (hR : RLX Z) (hE : ∀ Z1, LI Z1 → RLX Z1 → G 1299 [(0, vr 0), (1, vr 1), (2, vr 100), (3, vi i)] [] (130, Z1, R0)) : G 381 [(0, vr 0), (1, vr 1), (2, vr 100), (3, vi i)] [] (130, Z, R0) := by
  obtain ⟨h_pc, -⟩ := hR
  have o_pc := h_pc
  refine wp_run hG [1299] 200 _ _ _ _ ?_
  repeat' (first
    | with_reducible rfl
    | refine And.intro ?_ ?_
    | (intro (r : Option PV) σ' hq
       first
       | (obtain ⟨rfl, rfl⟩ := hq)
       | (obtain ⟨rfl, x, rfl, hp⟩ := hq; (try replace hp : _ ∧ _ := hp); (try dsimp only at hp))
       | (obtain ⟨Z', x, rfl, rfl, hI2, hk2, hp⟩ := hq; (try replace hp : _ ∧ _ := hp); (try dsimp only at hp); (first | have hk3 := kp_of hk2 | have hk3 := hk2); (first | have hZ := LI_av hZ hI2 hk3 (by rfl) | skip); (first | have h_pc := RC_pc_av hk3 (by rfl) h_pc | skip))
       | (obtain ⟨Z', x, rfl, rfl, hI2, hk2⟩ := hq; (first | have hk3 := kp_of hk2 | have hk3 := hk2); (first | have hZ := LI_av hZ hI2 hk3 (by rfl) | skip); (first | have h_pc := RC_pc_av hk3 (by rfl) h_pc | skip))
       | (rcases hq with ⟨Z', rfl, rfl, hI2, hk2⟩ | ⟨Z', rfl, rfl, hI2, hk2⟩ <;> ((first | have hk3 := kp_of hk2 | have hk3 := hk2); (first | have hZ := LI_av hZ hI2 hk3 (by rfl) | skip); (first | have h_pc := RC_pc_av hk3 (by rfl) h_pc | skip)))
       | (obtain ⟨Z', rfl, rfl, hI2, hk2, hp⟩ := hq; (first | have hk3 := kp_of hk2 | have hk3 := hk2); (first | have hZ := LI_av hZ hI2 hk3 (by rfl) | skip); (first | have h_pc := RC_pc_av hk3 (by rfl) h_pc | skip))
       | (obtain ⟨Z', rfl, rfl, hI2, hk2⟩ := hq; (first | have hk3 := kp_of hk2 | have hk3 := hk2); (first | have hZ := LI_av hZ hI2 hk3 (by rfl) | skip); (first | have h_pc := RC_pc_av hk3 (by rfl) h_pc | skip)))
    | (intro hc; (try simp only [cmp3_c] at hc); simp only [cmpI] at hc))
  all_goals first
    | with_reducible rfl
    | ((with_reducible show recvG _ _); rfl)
    | with_reducible exact trivial
    | ((with_reducible show CI _); exact hZ.1)
    | ((with_reducible show E1 _); exact hZ.2.1)
    | ((with_reducible show EB _); exact hZ.2.2.1)
    | ((with_reducible show KB _); exact hZ.2.2.2.1)
    | ((with_reducible show KE _); exact hZ.2.2.2.2)
    | (refine hG.2 1299 _ [(0, vr 0), (1, vr 1), (2, vr 100), (3, vi i)] _ _ rfl ?_; exact hE _ hZ ⟨(by assumption), trivial⟩)
    | decide
    | (refine (sx hi hL (k := 0) (by decide) ?_).1; simp (disch := omega) only [w32_id]; omega)
    | (with_reducible refine (sx hi hL ?_ rfl).1; decide)
    | (with_reducible refine (sx hi hL ?_ rfl).2; decide)
    | omega
    | (exfalso; omega)
    | rfl
    | skip

set_option maxRecDepth 100000 in
set_option maxHeartbeats 40000000 in
theorem lc_8 {L : Nat} {xs : Nat → Int} {G : GT} (hG : Clo MCL 130 (some (L, xs)) QL G) {i : Int} (hi : 0 ≤ i ∧ i + 7 ≤ (L : Int)) (hL : L ≤ 3584) {Z : ZT} (hZ : LI Z) (hR : RLX Z) (hE : ∀ Z1, LI Z1 → RLX Z1 → G 1299 [(0, vr 0), (1, vr 1), (2, vr 100), (3, vi i)] [] (130, Z1, R0)) : G 414 [(0, vr 0), (1, vr 1), (2, vr 100), (3, vi i)] [] (130, Z, R0) := by
  obtain ⟨h_pc, -⟩ := hR
  have o_pc := h_pc
  refine wp_run hG [1299] 200 _ _ _ _ ?_
  repeat' (first
    | with_reducible rfl
    | refine And.intro ?_ ?_
    | (intro (r : Option PV) σ' hq
       first
       | (obtain ⟨rfl, rfl⟩ := hq)
       | (obtain ⟨rfl, x, rfl, hp⟩ := hq; (try replace hp : _ ∧ _ := hp); (try dsimp only at hp))
       | (obtain ⟨Z', x, rfl, rfl, hI2, hk2, hp⟩ := hq; (try replace hp : _ ∧ _ := hp); (try dsimp only at hp); (first | have hk3 := kp_of hk2 | have hk3 := hk2); (first | have hZ := LI_av hZ hI2 hk3 (by rfl) | skip); (first | have h_pc := RC_pc_av hk3 (by rfl) h_pc | skip))
       | (obtain ⟨Z', x, rfl, rfl, hI2, hk2⟩ := hq; (first | have hk3 := kp_of hk2 | have hk3 := hk2); (first | have hZ := LI_av hZ hI2 hk3 (by rfl) | skip); (first | have h_pc := RC_pc_av hk3 (by rfl) h_pc | skip))
       | (rcases hq with ⟨Z', rfl, rfl, hI2, hk2⟩ | ⟨Z', rfl, rfl, hI2, hk2⟩ <;> ((first | have hk3 := kp_of hk2 | have hk3 := hk2); (first | have hZ := LI_av hZ hI2 hk3 (by rfl) | skip); (first | have h_pc := RC_pc_av hk3 (by rfl) h_pc | skip)))
       | (obtain ⟨Z', rfl, rfl, hI2, hk2, hp⟩ := hq; (first | have hk3 := kp_of hk2 | have hk3 := hk2); (first | have hZ := LI_av hZ hI2 hk3 (by rfl) | skip); (first | have h_pc := RC_pc_av hk3 (by rfl) h_pc | skip))
       | (obtain ⟨Z', rfl, rfl, hI2, hk2⟩ := hq; (first | have hk3 := kp_of hk2 | have hk3 := hk2); (first | have hZ := LI_av hZ hI2 hk3 (by rfl) | skip); (first | have h_pc := RC_pc_av hk3 (by rfl) h_pc | skip)))
    | (intro hc; (try simp only [cmp3_c] at hc); simp only [cmpI] at hc))
  all_goals first
    | with_reducible rfl
    | ((with_reducible show recvG _ _); rfl)
    | with_reducible exact trivial
    | ((with_reducible show CI _); exact hZ.1)
    | ((with_reducible show E1 _); exact hZ.2.1)
    | ((with_reducible show EB _); exact hZ.2.2.1)
    | ((with_reducible show KB _); exact hZ.2.2.2.1)
    | ((with_reducible show KE _); exact hZ.2.2.2.2)
    | (refine hG.2 1299 _ [(0, vr 0), (1, vr 1), (2, vr 100), (3, vi i)] _ _ rfl ?_; exact hE _ hZ ⟨(by assumption), trivial⟩)
    | decide
    | (refine (sx hi hL (k := 0) (by decide) ?_).1; simp (disch := omega) only [w32_id]; omega)
    | (with_reducible refine (sx hi hL ?_ rfl).1; decide)
    | (with_reducible refine (sx hi hL ?_ rfl).2; decide)
    | omega
    | (exfalso; omega)
    | rfl
    | skip
