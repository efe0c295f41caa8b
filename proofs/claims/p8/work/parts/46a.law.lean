/-! ===== the law: its cases ===== -/
abbrev MCL : Mc := (tb_L, PL, clL, oiN, 1, 0)
def QL (r : Option PV) (_ : St) : Prop := r = some (vi 1)
def liS (S : List Nat) : Bool := avo S 104 && (avo S 107 && (avo S 128 && (avo S 121 && (!(S.elem 100) && !(S.elem 31100)))))
theorem LI_av {S : List Nat} {Z Z' : ZT} (h : LI Z) (hI : CI Z') (hk : kp S Z Z') (hS : liS S = true) : LI Z' := by
  unfold liS at hS
  simp only [Bool.and_eq_true] at hS
  obtain ⟨h1, h2, h3, h4, h5, h6⟩ := hS
  have e4 := kp_av hk h1 (by decide)
  have e7 := kp_av hk h2 (by decide)
  have e8 := kp_av hk h3 (by decide)
  have e1 := kp_av hk h4 (by decide)
  have e30 : Z' 100 30 = Z 100 30 := hk 100 30 (by decide) (by simpa using h5) (by simpa using h6)
  exact ⟨hI, E1_eq e4 e7 h.2.1, EB_o e8 h.2.2.1, KB_o e1 h.2.2.2.1, KE_c e1 h.2.2.2.2 (Int.le_of_eq e30)⟩
/-- all but what lies on the lines -/
theorem LI_e1 {S : List Nat} {Z Z' : ZT} (h : LI Z) (hI : CI Z') (hk : kp S Z Z') (hE : E1 Z') (hS : (avo S 128 && (avo S 121 && (!(S.elem 100) && !(S.elem 31100)))) = true) : LI Z' := by
  simp only [Bool.and_eq_true] at hS
  obtain ⟨h3, h4, h5, h6⟩ := hS
  have e8 := kp_av hk h3 (by decide)
  have e1 := kp_av hk h4 (by decide)
  have e30 : Z' 100 30 = Z 100 30 := hk 100 30 (by decide) (by simpa using h5) (by simpa using h6)
  exact ⟨hI, hE, EB_o e8 h.2.2.1, KB_o e1 h.2.2.2.1, KE_c e1 h.2.2.2.2 (Int.le_of_eq e30)⟩
/-- all but the minutes -/
theorem LI_eb {S : List Nat} {Z Z' : ZT} (h : LI Z) (hI : CI Z') (hk : kp S Z Z') (hE : EB Z') (hS : (avo S 104 && (avo S 107 && (avo S 121 && (!(S.elem 100) && !(S.elem 31100))))) = true) : LI Z' := by
  simp only [Bool.and_eq_true] at hS
  obtain ⟨h3, h2, h4, h5, h6⟩ := hS
  have e4 := kp_av hk h3 (by decide)
  have e7 := kp_av hk h2 (by decide)
  have e1 := kp_av hk h4 (by decide)
  have e30 : Z' 100 30 = Z 100 30 := hk 100 30 (by decide) (by simpa using h5) (by simpa using h6)
  exact ⟨hI, E1_eq e4 e7 h.2.1, hE, KB_o e1 h.2.2.2.1, KE_c e1 h.2.2.2.2 (Int.le_of_eq e30)⟩
/-- what is kept, brought back -/
theorem LI_k {S : List Nat} {Z Z' : ZT} (h : LI Z) (hI : CI Z') (hk : kp S Z Z') (hB : KB Z') (hE : E1 Z') (hK : KE Z') (hS : avo S 128 = true) : LI Z' := ⟨hI, hE, EB_o (kp_av hk hS (by decide)) h.2.2.1, hB, hK⟩
/-- what is kept is dropped, perhaps -/
theorem LI_sky {S : List Nat} {Z Z' : ZT} (h : LI Z) (hI : CI Z') (hk : kp S Z Z') (hq : Z' 100 30 = Z 100 30 ∨ Z' 100 30 = 0) (hS : (avo S 104 && (avo S 107 && (avo S 128 && avo S 121))) = true) : LI Z' := by
  simp only [Bool.and_eq_true] at hS
  obtain ⟨h1, h2, h3, h4⟩ := hS
  have e4 := kp_av hk h1 (by decide)
  have e7 := kp_av hk h2 (by decide)
  have e8 := kp_av hk h3 (by decide)
  have e1 := kp_av hk h4 (by decide)
  have q := h.1 100 30 0 2 rfl
  exact ⟨hI, E1_eq e4 e7 h.2.1, EB_o e8 h.2.2.1, KB_o e1 h.2.2.2.1, KE_c e1 h.2.2.2.2 (by omega)⟩
theorem sx {L : Nat} {i k x : Int} (h : 0 ≤ i ∧ i + 7 ≤ (L : Int)) (hL : L ≤ 3584) (hk : 0 ≤ k ∧ k ≤ 6) (hx : x = w32 (i + k)) : 0 ≤ x ∧ x < (L : Int) := by
  subst hx
  rw [w32_id (by omega) (by omega)]
  omega
/-- the text's bytes -/
def RC_tx (Z : ZT) : Prop := Z 6 1 = Z 100 5 ∧ ∀ k : Nat, (k : Int) < Z 6 1 → Z 7 k = Z 102 k ∧ 0 ≤ Z 7 k ∧ Z 7 k ≤ 255
theorem RC_tx_av {S : List Nat} {Z Z' : ZT} (hk : kp S Z Z') (hS : (avo S 7 && (avo S 102 && ((!(S.elem 6) && !(S.elem 2006)) && (!(S.elem 100) && !(S.elem 6100))))) = true) (h : RC_tx Z) : RC_tx Z' := by
  simp only [Bool.and_eq_true, Bool.not_eq_true'] at hS
  obtain ⟨h0, h1, ⟨f0, g0⟩, ⟨f1, g1⟩⟩ := hS
  have e0 : Z' 7 = Z 7 := kp_av hk h0 (by decide)
  have e1 : Z' 102 = Z 102 := kp_av hk h1 (by decide)
  have d0 : Z' 6 1 = Z 6 1 := hk 6 1 (by decide) (by simpa using f0) (by simpa using g0)
  have d1 : Z' 100 5 = Z 100 5 := hk 100 5 (by decide) (by simpa using f1) (by simpa using g1)
  unfold RC_tx at h ⊢
  simp only [e0, e1, d0, d1]
  exact h
theorem kp_cls {S : List Nat} {Z Z' : ZT} (h : kp S Z Z') (hS : S.all (fun e => Nat.ble (e % 1000) 99) = true) : ∀ o, 100 ≤ o → o ≤ 130 → Z' o = Z o := fun o h1 h2 => funext fun k => by
  refine h o k (by omega) (fun z => ?_) (fun z => ?_)
  · have w := Nat.le_of_ble_eq_true (List.all_eq_true.mp hS _ z)
    omega
  · have w := Nat.le_of_ble_eq_true (List.all_eq_true.mp hS _ z)
    omega
theorem kp_mod {S : List Nat} {Z Z' : ZT} (h : kp S Z Z') (hS : S.all (fun e => Nat.ble 100 (e % 1000)) = true) : ∀ o, o ≤ 99 → Z' o = Z o := fun o h1 => funext fun k => by
  refine h o k (by omega) (fun z => ?_) (fun z => ?_)
  · have w := Nat.le_of_ble_eq_true (List.all_eq_true.mp hS _ z)
    omega
  · have w := Nat.le_of_ble_eq_true (List.all_eq_true.mp hS _ z)
    omega
theorem tx_b {Z ZA : ZT} (h : RC_tx Z) (m : ZA 102 = Z 102) (m5 : ZA 100 5 = Z 100 5) : mB ZA = bC Z := by
  obtain ⟨h1, h2⟩ := h
  funext k
  unfold mB bC
  rw [m, m5, ← h1]
  by_cases hq : 0 ≤ k ∧ k < Z 6 1 ∧ k < 160
  · rw [if_pos hq, if_pos hq]
    exact (h2 k.toNat (by omega)).1.symm
  · rw [if_neg hq, if_neg hq]
theorem tx_byC {Z : ZT} (h : RC_tx Z) : BYT (bC Z) := by
  obtain ⟨h1, h2⟩ := h
  intro k
  unfold bC
  by_cases hq : 0 ≤ k ∧ k < Z 6 1 ∧ k < 160
  · rw [if_pos hq]
    have := h2 k.toNat (by omega)
    omega
  · rw [if_neg hq]
    omega
theorem tx_byM {Z : ZT} (h : RC_tx Z) : BYT (mB Z) := by
  rw [tx_b h rfl rfl]
  exact tx_byC h
theorem cu_write_tx {Z ZA ZB : ZT} { a1 a2 xA xB : Int} (pA : (xA = -1 ∧ ¬(1 ≤ a1 ∧ a1 ≤ 8) ∧ ZA 6 1 = Z 6 1 ∧ ZA 7 = Z 7 ∨ xA = -3 ∧ (1 ≤ a1 ∧ a1 ≤ 8) ∧ 160 < Z 6 1 + a1 ∧ ZA 6 1 = Z 6 1 ∧ ZA 7 = Z 7 ∨ xA = Z 6 1 + a1 ∧ (1 ≤ a1 ∧ a1 ≤ 8) ∧ Z 6 1 + a1 ≤ 160 ∧ ZA 6 1 = Z 6 1 + a1 ∧ WRB Z ZA 7 (Z 6 1) a1 (-1) a2) ∧ True) (pB : (xB = -1 ∧ ¬(1 ≤ a1 ∧ a1 ≤ 8) ∧ ZB 100 5 = ZA 100 5 ∧ ZB 102 = ZA 102 ∨ xB = -3 ∧ (1 ≤ a1 ∧ a1 ≤ 8) ∧ 160 < ZA 100 5 + a1 ∧ ZB 100 5 = ZA 100 5 ∧ ZB 102 = ZA 102 ∨ xB = ZA 100 5 + a1 ∧ (1 ≤ a1 ∧ a1 ≤ 8) ∧ ZA 100 5 + a1 ≤ 160 ∧ ZB 100 5 = ZA 100 5 + a1 ∧ WRB ZA ZB 102 (ZA 100 5) a1 (-1) a2) ∧ True) (hkA : kp ([7, 2006]) Z ZA) (hkB : kp ([102, 6100]) ZA ZB) (hI : CI Z) (h_tx : RC_tx Z)  : xA = xB ∧ RC_tx ZB := by
  have fm := kp_cls hkA (by rfl)
  have fc := kp_mod hkB (by rfl)
  have m5 := congrFun (fm 100 (by decide) (by decide)) 5
  have c61 := congrFun (fc 6 (by decide)) 1
  have m102 := fm 102 (by decide) (by decide)
  have c7 := fc 7 (by decide)
  have hr := hI 100 5 0 160 rfl
  unfold RC_tx at *
  obtain ⟨hl, hb⟩ := h_tx
  rcases pA.1 with ⟨a, b, d, e⟩ | ⟨a, b, b2, d, e⟩ | ⟨a, b, b2, d, e1, e2⟩ <;> rcases pB.1 with ⟨a', b', d', e'⟩ | ⟨a', b', b2', d', e'⟩ | ⟨a', b', b2', d', e1', e2'⟩
  · refine ⟨by omega, by omega, fun k hk => ?_⟩
    rw [c7, e, e', m102]
    exact hb k (by omega)
  · exact absurd b' b
  · exact absurd b' b
  · exact absurd b b'
  · refine ⟨by omega, by omega, fun k hk => ?_⟩
    rw [c7, e, e', m102]
    exact hb k (by omega)
  · omega
  · exact absurd b b'
  · omega
  · refine ⟨by omega, by omega, fun k hk => ?_⟩
    rw [c7]
    by_cases hq : (k : Int) < Z 6 1
    · rw [e1 k hq, e1' k (by omega), m102]
      exact hb k hq
    · have q1 := e2 (k - (Z 6 1).toNat) (by omega)
      have q2 := e2' (k - (Z 6 1).toNat) (by omega)
      rw [show (Z 6 1).toNat + (k - (Z 6 1).toNat) = k by omega] at q1
      rw [show (ZA 100 5).toNat + (k - (Z 6 1).toNat) = k by omega] at q2
      rw [q1, q2]
      have r := byV_m (v := a2) (i := a1 - 1 - ((k - (Z 6 1).toNat : Nat) : Int)) (by omega) (by omega)
      exact ⟨rfl, r.2⟩
theorem cu_wipe_tx {Z ZA ZB : ZT} { xA xB : Int} (pA : (xA = Z 6 1) ∧ (ZA 6 1 = 0) ∧ True) (pB : (xB = ZA 100 5) ∧ (ZB 100 5 = 0) ∧ True) (hkA : kp ([2006]) Z ZA) (hkB : kp ([6100]) ZA ZB) (hI : CI Z) (h_tx : RC_tx Z)  : xA = xB ∧ RC_tx ZB := by
  have fm := kp_cls hkA (by rfl)
  have fc := kp_mod hkB (by rfl)
  have m := congrFun (fm 100 (by decide) (by decide)) 5
  have c := congrFun (fc 6 (by decide)) 1
  obtain ⟨p1, p2, -⟩ := pA
  obtain ⟨q1, q2, -⟩ := pB
  unfold RC_tx at *
  obtain ⟨hl, hb⟩ := h_tx
  exact ⟨by omega, by omega, fun k hk => by exfalso; omega⟩
theorem cu_fault {Z ZA ZB : ZT} { xA xB : Int} (pA : (∃ m : Nat, RDR (bC Z) (Z 6 1) m xA ∧ (xA = -4 → RDL (bC Z) ZA m)) ∧ True) (pB : (E1 ZB) ∧ (∃ m : Nat, RDR (mB ZA) (ZA 100 5) m xB ∧ (xB = -4 → RDM (mB ZA) ZB m)) ∧ (LOW ZA ZB) ∧ True) (hkA : kp ([4006, 5006, 6006, 8, 9, 10, 11, 12, 13, 14, 15, 16, 17]) Z ZA) (hkB : kp ([33100, 34100, 35100, 9100, 103, 104, 105, 106, 107, 108, 109, 110, 111]) ZA ZB) (hI : CI Z) (h_tx : RC_tx Z)  : xA = xB := by
  have fm := kp_cls hkA (by rfl)
  have fc := kp_mod hkB (by rfl)
  have e := tx_b h_tx (fm 102 (by decide) (by decide)) (congrFun (fm 100 (by decide) (by decide)) 5)
  have m5 := congrFun (fm 100 (by decide) (by decide)) 5
  obtain ⟨m, h1, -⟩ := pA.1
  obtain ⟨m', h2, -⟩ := pB.2.1
  rw [e, m5, ← h_tx.1] at h2
  exact (RDR_u h1 h2).2
theorem cu_plan8 {Z ZA ZB : ZT} { xA xB : Int} (pA : (∃ (m : Nat) (x0 : Int) (Zr : ZT), RDR (bC Z) (Z 6 1) m x0 ∧ (x0 ≠ -4 ∧ xA = -2 ∧ (∀ o, 19 ≤ o → o ≤ 28 → ZA o = Z o) ∨ x0 = -4 ∧ xA = m ∧ RDL (bC Z) Zr m ∧ TKP ZA Zr 19 8)) ∧ True) (pB : (E1 ZB) ∧ (∃ (m : Nat) (x0 : Int), RDR (mB ZA) (ZA 100 5) m x0 ∧ (x0 ≠ -4 ∧ xB = -2 ∧ LOW ZA ZB ∧ ZB 100 7 = ZA 100 7 ∨ x0 = -4 ∧ xB = m ∧ PLI (mB ZA) (ZA 100 5) ZB 4 80)) ∧ True) (hkA : kp ([4006, 5006, 6006, 8, 9, 10, 11, 12, 13, 14, 15, 16, 17, 19, 20, 21, 22, 23, 24, 25, 26, 27, 28, 70, 72, 74, 76, 78]) Z ZA) (hkB : kp ([33100, 34100, 35100, 9100, 103, 104, 105, 106, 107, 108, 109, 110, 111, 8100]) ZA ZB) (hI : CI Z) (h_tx : RC_tx Z)  : xA = xB := by
  have fm := kp_cls hkA (by rfl)
  have fc := kp_mod hkB (by rfl)
  have e := tx_b h_tx (fm 102 (by decide) (by decide)) (congrFun (fm 100 (by decide) (by decide)) 5)
  have m5 := congrFun (fm 100 (by decide) (by decide)) 5
  obtain ⟨m, x0, Zr, h1, h1'⟩ := pA.1
  obtain ⟨m', x0', h2, h2'⟩ := pB.2.1
  rw [e, m5, ← h_tx.1] at h2
  have q := RDR_u h1 h2
  rcases h1' with ⟨a1, a2, -⟩ | ⟨a1, a2, -⟩ <;> rcases h2' with ⟨b1, b2, -⟩ | ⟨b1, b2, -⟩ <;> omega
/-- what class and reference have alike between calls -/
def RLX (Z : ZT) : Prop := RC_tx Z ∧ True
set_option maxRecDepth 100000 in
set_option maxHeartbeats 40000000 in
theorem lc_0 {L : Nat} {xs : Nat → Int} {G : GT} (hG : Clo MCL 130 (some (L, xs)) QL G) {i : Int} (hi : 0 ≤ i ∧ i + 7 ≤ (L : Int)) (hL : L ≤ 3584) {Z : ZT} (hZ : LI Z) (hR : RLX Z) (hE : ∀ Z1, LI Z1 → RLX Z1 → G 1299 [(0, vr 0), (1, vr 1), (2, vr 100), (3, vi i)] [] (130, Z1, R0)) : G 180 [(0, vr 0), (1, vr 1), (2, vr 100), (3, vi i)] [] (130, Z, R0) := by
  obtain ⟨h_tx, -⟩ := hR
  have o_tx := h_tx
  have hCI := hZ.1
  have htx0 : 0 ≤ Z 6 1 ∧ Z 6 1 ≤ 160 := by (have q := hCI 100 5 0 160 rfl; have q2 := h_tx.1; omega)
  refine wp_run hG [1299] 200 _ _ _ _ ?_
  repeat' (first
    | with_reducible rfl
    | ((with_reducible show BYT (bC _)); exact tx_byC h_tx)
    | ((with_reducible show BYT (mB _)); exact tx_byM h_tx)
    | refine And.intro ?_ ?_
    | (intro (r : Option PV) σ' hq
       first
       | (obtain ⟨rfl, rfl⟩ := hq)
       | (obtain ⟨rfl, x, rfl, hp⟩ := hq; (try replace hp : _ ∧ _ := hp); (try dsimp only at hp))
       | (obtain ⟨Z', x, rfl, rfl, hI2, hk2, hp⟩ := hq; (try replace hp : _ ∧ _ := hp); (try dsimp only at hp); (first | have hk3 := kp_of hk2 | have hk3 := hk2); (first | have hZ := LI_av hZ hI2 hk3 (by rfl) | have hZ := LI_sky hZ hI2 hk3 hp.2.1 (by rfl) | skip); (first | have h_tx := RC_tx_av hk3 (by rfl) h_tx | skip))
       | (obtain ⟨Z', x, rfl, rfl, hI2, hk2⟩ := hq; (first | have hk3 := kp_of hk2 | have hk3 := hk2); (first | have hZ := LI_av hZ hI2 hk3 (by rfl) | have hZ := LI_sky hZ hI2 hk3 hp.2.1 (by rfl) | skip); (first | have h_tx := RC_tx_av hk3 (by rfl) h_tx | skip))
       | (rcases hq with ⟨Z', rfl, rfl, hI2, hk2⟩ | ⟨Z', rfl, rfl, hI2, hk2⟩ <;> ((first | have hk3 := kp_of hk2 | have hk3 := hk2); (first | have hZ := LI_av hZ hI2 hk3 (by rfl) | have hZ := LI_sky hZ hI2 hk3 hp.2.1 (by rfl) | skip); (first | have h_tx := RC_tx_av hk3 (by rfl) h_tx | skip)))
       | (obtain ⟨Z', rfl, rfl, hI2, hk2, hp⟩ := hq; (first | have hk3 := kp_of hk2 | have hk3 := hk2); (first | have hZ := LI_av hZ hI2 hk3 (by rfl) | have hZ := LI_sky hZ hI2 hk3 hp.2.1 (by rfl) | skip); (first | have h_tx := RC_tx_av hk3 (by rfl) h_tx | skip))
       | (obtain ⟨Z', rfl, rfl, hI2, hk2⟩ := hq; (first | have hk3 := kp_of hk2 | have hk3 := hk2); (first | have hZ := LI_av hZ hI2 hk3 (by rfl) | have hZ := LI_sky hZ hI2 hk3 hp.2.1 (by rfl) | skip); (first | have h_tx := RC_tx_av hk3 (by rfl) h_tx | skip)))
    | (intro hc; (try simp only [cmp3_c] at hc); simp only [cmpI] at hc))
  all_goals first
    | with_reducible rfl
    | ((with_reducible show recvG _ _); rfl)
    | with_reducible exact trivial
    | ((with_reducible show BYT (bC _)); exact tx_byC h_tx)
    | ((with_reducible show BYT (mB _)); exact tx_byM h_tx)
    | ((with_reducible show CI _); exact hZ.1)
    | ((with_reducible show E1 _); exact hZ.2.1)
    | ((with_reducible show EB _); exact hZ.2.2.1)
    | ((with_reducible show KB _); exact hZ.2.2.2.1)
    | ((with_reducible show KE _); exact hZ.2.2.2.2)
    | (refine hG.2 1299 _ [(0, vr 0), (1, vr 1), (2, vr 100), (3, vi i)] _ _ rfl ?_; exact hE _ hZ ⟨(by assumption), trivial⟩)
    | decide
    | (refine (sx hi hL (k := 0) (by decide) ?_).1; simp (disch := omega) only [w32_id]; omega)
    | (with_reducible refine (sx hi hL ?_ rfl).1; decide)
    | (with_reducible refine (sx hi hL ?_ rfl).2; decide)
    | omega
    | (dsimp only; omega)
    | (exfalso; omega)
    | rfl
    | skip

set_option maxRecDepth 100000 in
set_option maxHeartbeats 40000000 in
theorem lc_1 {L : Nat} {xs : Nat → Int} {G : GT} (hG : Clo MCL 130 (some (L, xs)) QL G) {i : Int} (hi : 0 ≤ i ∧ i + 7 ≤ (L : Int)) (hL : L ≤ 3584) {Z : ZT} (hZ : LI Z) (hR : RLX Z) (hE : ∀ Z1, LI Z1 → RLX Z1 → G 1299 [(0, vr 0), (1, vr 1), (2, vr 100), (3, vi i)] [] (130, Z1, R0)) : G 213 [(0, vr 0), (1, vr 1), (2, vr 100), (3, vi i)] [] (130, Z, R0) := by
  obtain ⟨h_tx, -⟩ := hR
  have o_tx := h_tx
  have hCI := hZ.1
  have htx0 : 0 ≤ Z 6 1 ∧ Z 6 1 ≤ 160 := by (have q := hCI 100 5 0 160 rfl; have q2 := h_tx.1; omega)
  refine wp_run hG [1299] 200 _ _ _ _ ?_
  repeat' (first
    | with_reducible rfl
    | ((with_reducible show BYT (bC _)); exact tx_byC h_tx)
    | ((with_reducible show BYT (mB _)); exact tx_byM h_tx)
    | refine And.intro ?_ ?_
    | (intro (r : Option PV) σ' hq
       first
       | (obtain ⟨rfl, rfl⟩ := hq)
       | (obtain ⟨rfl, x, rfl, hp⟩ := hq; (try replace hp : _ ∧ _ := hp); (try dsimp only at hp))
       | (obtain ⟨Z', x, rfl, rfl, hI2, hk2, hp⟩ := hq; (try replace hp : _ ∧ _ := hp); (try dsimp only at hp); (first | have hk3 := kp_of hk2 | have hk3 := hk2); (first | have hZ := LI_av hZ hI2 hk3 (by rfl) | skip); (first | have h_tx := RC_tx_av hk3 (by rfl) h_tx | skip))
       | (obtain ⟨Z', x, rfl, rfl, hI2, hk2⟩ := hq; (first | have hk3 := kp_of hk2 | have hk3 := hk2); (first | have hZ := LI_av hZ hI2 hk3 (by rfl) | skip); (first | have h_tx := RC_tx_av hk3 (by rfl) h_tx | skip))
       | (rcases hq with ⟨Z', rfl, rfl, hI2, hk2⟩ | ⟨Z', rfl, rfl, hI2, hk2⟩ <;> ((first | have hk3 := kp_of hk2 | have hk3 := hk2); (first | have hZ := LI_av hZ hI2 hk3 (by rfl) | skip); (first | have h_tx := RC_tx_av hk3 (by rfl) h_tx | skip)))
       | (obtain ⟨Z', rfl, rfl, hI2, hk2, hp⟩ := hq; (first | have hk3 := kp_of hk2 | have hk3 := hk2); (first | have hZ := LI_av hZ hI2 hk3 (by rfl) | skip); (first | have h_tx := RC_tx_av hk3 (by rfl) h_tx | skip))
       | (obtain ⟨Z', rfl, rfl, hI2, hk2⟩ := hq; (first | have hk3 := kp_of hk2 | have hk3 := hk2); (first | have hZ := LI_av hZ hI2 hk3 (by rfl) | skip); (first | have h_tx := RC_tx_av hk3 (by rfl) h_tx | skip)))
    | (intro hc; (try simp only [cmp3_c] at hc); simp only [cmpI] at hc))
  all_goals first
    | with_reducible rfl
    | ((with_reducible show recvG _ _); rfl)
    | with_reducible exact trivial
    | ((with_reducible show BYT (bC _)); exact tx_byC h_tx)
    | ((with_reducible show BYT (mB _)); exact tx_byM h_tx)
    | ((with_reducible show CI _); exact hZ.1)
    | ((with_reducible show E1 _); exact hZ.2.1)
    | ((with_reducible show EB _); exact hZ.2.2.1)
    | ((with_reducible show KB _); exact hZ.2.2.2.1)
    | ((with_reducible show KE _); exact hZ.2.2.2.2)
    | (refine hG.2 1299 _ [(0, vr 0), (1, vr 1), (2, vr 100), (3, vi i)] _ _ rfl ?_; exact hE _ hZ ⟨(by assumption), trivial⟩)
    | decide
    | (refine (sx hi hL (k := 0) (by decide) ?_).1; simp (disch := omega) only [w32_id]; omega)
    | (with_reducible refine (sx hi hL ?_ rfl).1; decide)
    | (with_reducible refine (sx hi hL ?_ rfl).2; decide)
    | omega
    | (dsimp only; omega)
    | (exfalso; omega)
    | rfl
    | skip

set_option maxRecDepth 100000 in
set_option maxHeartbeats 40000000 in
theorem lc_2 {L : Nat} {xs : Nat → Int} {G : GT} (hG : Clo MCL 130 (some (L, xs)) QL G) {i : Int} (hi : 0 ≤ i ∧ i + 7 ≤ (L : Int)) (hL : L ≤ 3584) {Z : ZT} (hZ : LI Z) (hR : RLX Z) (hE : ∀ Z1, LI Z1 → RLX Z1 → G 1299 [(0, vr 0), (1, vr 1), (2, vr 100), (3, vi i)] [] (130, Z1, R0)) : G 246 [(0, vr 0), (1, vr 1), (2, vr 100), (3, vi i)] [] (130, Z, R0) := by
  obtain ⟨h_tx, -⟩ := hR
  have o_tx := h_tx
  have hCI := hZ.1
  have htx0 : 0 ≤ Z 6 1 ∧ Z 6 1 ≤ 160 := by (have q := hCI 100 5 0 160 rfl; have q2 := h_tx.1; omega)
  refine wp_run hG [1299] 200 _ _ _ _ ?_
  repeat' (first
    | with_reducible rfl
    | ((with_reducible show BYT (bC _)); exact tx_byC h_tx)
    | ((with_reducible show BYT (mB _)); exact tx_byM h_tx)
    | refine And.intro ?_ ?_
    | (intro (r : Option PV) σ' hq
       first
       | (obtain ⟨rfl, rfl⟩ := hq)
       | (obtain ⟨rfl, x, rfl, hp⟩ := hq; (try replace hp : _ ∧ _ := hp); (try dsimp only at hp))
       | (obtain ⟨Z', x, rfl, rfl, hI2, hk2, hp⟩ := hq; (try replace hp : _ ∧ _ := hp); (try dsimp only at hp); (first | have hk3 := kp_of hk2 | have hk3 := hk2); (first | have hZ := LI_av hZ hI2 hk3 (by rfl) | skip); (first | have h_tx := RC_tx_av hk3 (by rfl) h_tx | skip))
       | (obtain ⟨Z', x, rfl, rfl, hI2, hk2⟩ := hq; (first | have hk3 := kp_of hk2 | have hk3 := hk2); (first | have hZ := LI_av hZ hI2 hk3 (by rfl) | skip); (first | have h_tx := RC_tx_av hk3 (by rfl) h_tx | skip))
       | (rcases hq with ⟨Z', rfl, rfl, hI2, hk2⟩ | ⟨Z', rfl, rfl, hI2, hk2⟩ <;> ((first | have hk3 := kp_of hk2 | have hk3 := hk2); (first | have hZ := LI_av hZ hI2 hk3 (by rfl) | skip); (first | have h_tx := RC_tx_av hk3 (by rfl) h_tx | skip)))
       | (obtain ⟨Z', rfl, rfl, hI2, hk2, hp⟩ := hq; (first | have hk3 := kp_of hk2 | have hk3 := hk2); (first | have hZ := LI_av hZ hI2 hk3 (by rfl) | skip); (first | have h_tx := RC_tx_av hk3 (by rfl) h_tx | skip))
       | (obtain ⟨Z', rfl, rfl, hI2, hk2⟩ := hq; (first | have hk3 := kp_of hk2 | have hk3 := hk2); (first | have hZ := LI_av hZ hI2 hk3 (by rfl) | skip); (first | have h_tx := RC_tx_av hk3 (by rfl) h_tx | skip)))
    | (intro hc; (try simp only [cmp3_c] at hc); simp only [cmpI] at hc))
  all_goals first
    | with_reducible rfl
    | ((with_reducible show recvG _ _); rfl)
    | with_reducible exact trivial
    | ((with_reducible show BYT (bC _)); exact tx_byC h_tx)
    | ((with_reducible show BYT (mB _)); exact tx_byM h_tx)
    | ((with_reducible show CI _); exact hZ.1)
    | ((with_reducible show E1 _); exact hZ.2.1)
    | ((with_reducible show EB _); exact hZ.2.2.1)
    | ((with_reducible show KB _); exact hZ.2.2.2.1)
    | ((with_reducible show KE _); exact hZ.2.2.2.2)
    | (refine hG.2 1299 _ [(0, vr 0), (1, vr 1), (2, vr 100), (3, vi i)] _ _ rfl ?_; exact hE _ hZ ⟨(by assumption), trivial⟩)
    | decide
    | (refine (sx hi hL (k := 0) (by decide) ?_).1; simp (disch := omega) only [w32_id]; omega)
    | (with_reducible refine (sx hi hL ?_ rfl).1; decide)
    | (with_reducible refine (sx hi hL ?_ rfl).2; decide)
    | omega
    | (dsimp only; omega)
    | (exfalso; omega)
    | rfl
    | skip

set_option maxRecDepth 100000 in
set_option maxHeartbeats 40000000 in
theorem lc_3 {L : Nat} {xs : Nat → Int} {G : GT} (hG : Clo MCL 130 (some (L, xs)) QL G) {i : Int} (hi : 0 ≤ i ∧ i + 7 ≤ (L : Int)) (hL : L ≤ 3584) {Z : ZT} (hZ : LI Z) (hR : RLX Z) (hE : ∀ Z1, LI Z1 → RLX Z1 → G 1299 [(0, vr 0), (1, vr 1), (2, vr 100), (3, vi i)] [] (130, Z1, R0)) : G 279 [(0, vr 0), (1, vr 1), (2, vr 100), (3, vi i)] [] (130, Z, R0) := by
  obtain ⟨h_tx, -⟩ := hR
  have o_tx := h_tx
  have hCI := hZ.1
  have htx0 : 0 ≤ Z 6 1 ∧ Z 6 1 ≤ 160 := by (have q := hCI 100 5 0 160 rfl; have q2 := h_tx.1; omega)
  refine wp_run hG [1299] 200 _ _ _ _ ?_
  repeat' (first
    | with_reducible rfl
    | ((with_reducible show BYT (bC _)); exact tx_byC h_tx)
    | ((with_reducible show BYT (mB _)); exact tx_byM h_tx)
    | refine And.intro ?_ ?_
    | (intro (r : Option PV) σ' hq
       first
       | (obtain ⟨rfl, rfl⟩ := hq)
       | (obtain ⟨rfl, x, rfl, hp⟩ := hq; (try replace hp : _ ∧ _ := hp); (try dsimp only at hp))
       | (obtain ⟨Z', x, rfl, rfl, hI2, hk2, hp⟩ := hq; (try replace hp : _ ∧ _ := hp); (try dsimp only at hp); (first | have hk3 := kp_of hk2 | have hk3 := hk2); (first | have hZ := LI_av hZ hI2 hk3 (by rfl) | skip); (first | have h_tx := RC_tx_av hk3 (by rfl) h_tx | skip); (first | (have hk0 := hkA; clear hk0; have hkB := hk3; (try have hpB := hp); (obtain ⟨hx, h_tx⟩ := cu_write_tx hpA hpB hkA hkB hCI o_tx; (try dsimp only at hx))) | (have hkA := hk3; (try have hpA := hp); skip)))
       | (obtain ⟨Z', x, rfl, rfl, hI2, hk2⟩ := hq; (first | have hk3 := kp_of hk2 | have hk3 := hk2); (first | have hZ := LI_av hZ hI2 hk3 (by rfl) | skip); (first | have h_tx := RC_tx_av hk3 (by rfl) h_tx | skip); (first | (have hk0 := hkA; clear hk0; have hkB := hk3; (try have hpB := hp); (obtain ⟨hx, h_tx⟩ := cu_write_tx hpA hpB hkA hkB hCI o_tx; (try dsimp only at hx))) | (have hkA := hk3; (try have hpA := hp); skip)))
       | (rcases hq with ⟨Z', rfl, rfl, hI2, hk2⟩ | ⟨Z', rfl, rfl, hI2, hk2⟩ <;> ((first | have hk3 := kp_of hk2 | have hk3 := hk2); (first | have hZ := LI_av hZ hI2 hk3 (by rfl) | skip); (first | have h_tx := RC_tx_av hk3 (by rfl) h_tx | skip); (first | (have hk0 := hkA; clear hk0; have hkB := hk3; (try have hpB := hp); (obtain ⟨hx, h_tx⟩ := cu_write_tx hpA hpB hkA hkB hCI o_tx; (try dsimp only at hx))) | (have hkA := hk3; (try have hpA := hp); skip))))
       | (obtain ⟨Z', rfl, rfl, hI2, hk2, hp⟩ := hq; (first | have hk3 := kp_of hk2 | have hk3 := hk2); (first | have hZ := LI_av hZ hI2 hk3 (by rfl) | skip); (first | have h_tx := RC_tx_av hk3 (by rfl) h_tx | skip); (first | (have hk0 := hkA; clear hk0; have hkB := hk3; (try have hpB := hp); (obtain ⟨hx, h_tx⟩ := cu_write_tx hpA hpB hkA hkB hCI o_tx; (try dsimp only at hx))) | (have hkA := hk3; (try have hpA := hp); skip)))
       | (obtain ⟨Z', rfl, rfl, hI2, hk2⟩ := hq; (first | have hk3 := kp_of hk2 | have hk3 := hk2); (first | have hZ := LI_av hZ hI2 hk3 (by rfl) | skip); (first | have h_tx := RC_tx_av hk3 (by rfl) h_tx | skip); (first | (have hk0 := hkA; clear hk0; have hkB := hk3; (try have hpB := hp); (obtain ⟨hx, h_tx⟩ := cu_write_tx hpA hpB hkA hkB hCI o_tx; (try dsimp only at hx))) | (have hkA := hk3; (try have hpA := hp); skip))))
    | (intro hc; (try simp only [cmp3_c] at hc); simp only [cmpI] at hc))
  all_goals first
    | with_reducible rfl
    | ((with_reducible show recvG _ _); rfl)
    | with_reducible exact trivial
    | ((with_reducible show BYT (bC _)); exact tx_byC h_tx)
    | ((with_reducible show BYT (mB _)); exact tx_byM h_tx)
    | ((with_reducible show CI _); exact hZ.1)
    | ((with_reducible show E1 _); exact hZ.2.1)
    | ((with_reducible show EB _); exact hZ.2.2.1)
    | ((with_reducible show KB _); exact hZ.2.2.2.1)
    | ((with_reducible show KE _); exact hZ.2.2.2.2)
    | (refine hG.2 1299 _ [(0, vr 0), (1, vr 1), (2, vr 100), (3, vi i)] _ _ rfl ?_; exact hE _ hZ ⟨(by assumption), trivial⟩)
    | decide
    | (refine (sx hi hL (k := 0) (by decide) ?_).1; simp (disch := omega) only [w32_id]; omega)
    | (with_reducible refine (sx hi hL ?_ rfl).1; decide)
    | (with_reducible refine (sx hi hL ?_ rfl).2; decide)
    | omega
    | (dsimp only; omega)
    | (exfalso; omega)
    | rfl
    | skip

set_option maxRecDepth 100000 in
set_option maxHeartbeats 40000000 in
theorem lc_4 {L : Nat} {xs : Nat → Int} {G : GT} (hG : Clo MCL 130 (some (L, xs)) QL G) {i : Int} (hi : 0 ≤ i ∧ i + 7 ≤ (L : Int)) (hL : L ≤ 3584) {Z : ZT} (hZ : LI Z) (hR : RLX Z) (hE : ∀ Z1, LI Z1 → RLX Z1 → G 1299 [(0, vr 0), (1, vr 1), (2, vr 100), (3, vi i)] [] (130, Z1, R0)) : G 342 [(0, vr 0), (1, vr 1), (2, vr 100), (3, vi i)] [] (130, Z, R0) := by
  obtain ⟨h_tx, -⟩ := hR
  have o_tx := h_tx
  have hCI := hZ.1
  have htx0 : 0 ≤ Z 6 1 ∧ Z 6 1 ≤ 160 := by (have q := hCI 100 5 0 160 rfl; have q2 := h_tx.1; omega)
  refine wp_run hG [1299] 200 _ _ _ _ ?_
  repeat' (first
    | with_reducible rfl
    | ((with_reducible show BYT (bC _)); exact tx_byC h_tx)
    | ((with_reducible show BYT (mB _)); exact tx_byM h_tx)
    | refine And.intro ?_ ?_
    | (intro (r : Option PV) σ' hq
       first
       | (obtain ⟨rfl, rfl⟩ := hq)
       | (obtain ⟨rfl, x, rfl, hp⟩ := hq; (try replace hp : _ ∧ _ := hp); (try dsimp only at hp))
       | (obtain ⟨Z', x, rfl, rfl, hI2, hk2, hp⟩ := hq; (try replace hp : _ ∧ _ := hp); (try dsimp only at hp); (first | have hk3 := kp_of hk2 | have hk3 := hk2); (first | have hZ := LI_av hZ hI2 hk3 (by rfl) | skip); (first | have h_tx := RC_tx_av hk3 (by rfl) h_tx | skip); (first | (have hk0 := hkA; clear hk0; have hkB := hk3; (try have hpB := hp); (obtain ⟨hx, h_tx⟩ := cu_wipe_tx hpA hpB hkA hkB hCI o_tx; (try dsimp only at hx))) | (have hkA := hk3; (try have hpA := hp); skip)))
       | (obtain ⟨Z', x, rfl, rfl, hI2, hk2⟩ := hq; (first | have hk3 := kp_of hk2 | have hk3 := hk2); (first | have hZ := LI_av hZ hI2 hk3 (by rfl) | skip); (first | have h_tx := RC_tx_av hk3 (by rfl) h_tx | skip); (first | (have hk0 := hkA; clear hk0; have hkB := hk3; (try have hpB := hp); (obtain ⟨hx, h_tx⟩ := cu_wipe_tx hpA hpB hkA hkB hCI o_tx; (try dsimp only at hx))) | (have hkA := hk3; (try have hpA := hp); skip)))
       | (rcases hq with ⟨Z', rfl, rfl, hI2, hk2⟩ | ⟨Z', rfl, rfl, hI2, hk2⟩ <;> ((first | have hk3 := kp_of hk2 | have hk3 := hk2); (first | have hZ := LI_av hZ hI2 hk3 (by rfl) | skip); (first | have h_tx := RC_tx_av hk3 (by rfl) h_tx | skip); (first | (have hk0 := hkA; clear hk0; have hkB := hk3; (try have hpB := hp); (obtain ⟨hx, h_tx⟩ := cu_wipe_tx hpA hpB hkA hkB hCI o_tx; (try dsimp only at hx))) | (have hkA := hk3; (try have hpA := hp); skip))))
       | (obtain ⟨Z', rfl, rfl, hI2, hk2, hp⟩ := hq; (first | have hk3 := kp_of hk2 | have hk3 := hk2); (first | have hZ := LI_av hZ hI2 hk3 (by rfl) | skip); (first | have h_tx := RC_tx_av hk3 (by rfl) h_tx | skip); (first | (have hk0 := hkA; clear hk0; have hkB := hk3; (try have hpB := hp); (obtain ⟨hx, h_tx⟩ := cu_wipe_tx hpA hpB hkA hkB hCI o_tx; (try dsimp only at hx))) | (have hkA := hk3; (try have hpA := hp); skip)))
       | (obtain ⟨Z', rfl, rfl, hI2, hk2⟩ := hq; (first | have hk3 := kp_of hk2 | have hk3 := hk2); (first | have hZ := LI_av hZ hI2 hk3 (by rfl) | skip); (first | have h_tx := RC_tx_av hk3 (by rfl) h_tx | skip); (first | (have hk0 := hkA; clear hk0; have hkB := hk3; (try have hpB := hp); (obtain ⟨hx, h_tx⟩ := cu_wipe_tx hpA hpB hkA hkB hCI o_tx; (try dsimp only at hx))) | (have hkA := hk3; (try have hpA := hp); skip))))
    | (intro hc; (try simp only [cmp3_c] at hc); simp only [cmpI] at hc))
  all_goals first
    | with_reducible rfl
    | ((with_reducible show recvG _ _); rfl)
    | with_reducible exact trivial
    | ((with_reducible show BYT (bC _)); exact tx_byC h_tx)
    | ((with_reducible show BYT (mB _)); exact tx_byM h_tx)
    | ((with_reducible show CI _); exact hZ.1)
    | ((with_reducible show E1 _); exact hZ.2.1)
    | ((with_reducible show EB _); exact hZ.2.2.1)
    | ((with_reducible show KB _); exact hZ.2.2.2.1)
    | ((with_reducible show KE _); exact hZ.2.2.2.2)
    | (refine hG.2 1299 _ [(0, vr 0), (1, vr 1), (2, vr 100), (3, vi i)] _ _ rfl ?_; exact hE _ hZ ⟨(by assumption), trivial⟩)
    | decide
    | (refine (sx hi hL (k := 0) (by decide) ?_).1; simp (disch := omega) only [w32_id]; omega)
    | (with_reducible refine (sx hi hL ?_ rfl).1; decide)
    | (with_reducible refine (sx hi hL ?_ rfl).2; decide)
    | omega
    | (dsimp only; omega)
    | (exfalso; omega)
    | rfl
    | skip

set_option maxRecDepth 100000 in
set_option maxHeartbeats 40000000 in
theorem lc_5 {L : Nat} {xs : Nat → Int} {G : GT} (hG : Clo MCL 130 (some (L, xs)) QL G) {i : Int} (hi : 0 ≤ i ∧ i + 7 ≤ (L : Int)) (hL : L ≤ 3584) {Z : ZT} (hZ : LI Z) (hR : RLX Z) (hE : ∀ Z1, LI Z1 → RLX Z1 → G 1299 [(0, vr 0), (1, vr 1), (2, vr 100), (3, vi i)] [] (130, Z1, R0)) : G 355 [(0, vr 0), (1, vr 1), (2, vr 100), (3, vi i)] [] (130, Z, R0) := by
  obtain ⟨h_tx, -⟩ := hR
  have o_tx := h_tx
  have hCI := hZ.1
  have htx0 : 0 ≤ Z 6 1 ∧ Z 6 1 ≤ 160 := by (have q := hCI 100 5 0 160 rfl; have q2 := h_tx.1; omega)
  refine wp_run hG [1299] 200 _ _ _ _ ?_
  repeat' (first
    | with_reducible rfl
    | ((with_reducible show BYT (bC _)); exact tx_byC h_tx)
    | ((with_reducible show BYT (mB _)); exact tx_byM h_tx)
    | refine And.intro ?_ ?_
    | (intro (r : Option PV) σ' hq
       first
       | (obtain ⟨rfl, rfl⟩ := hq)
       | (obtain ⟨rfl, x, rfl, hp⟩ := hq; (try replace hp : _ ∧ _ := hp); (try dsimp only at hp))
       | (obtain ⟨Z', x, rfl, rfl, hI2, hk2, hp⟩ := hq; (try replace hp : _ ∧ _ := hp); (try dsimp only at hp); (first | have hk3 := kp_of hk2 | have hk3 := hk2); (first | have hZ := LI_av hZ hI2 hk3 (by rfl) | have hZ := LI_e1 hZ hI2 hk3 hp.1 (by rfl) | skip); (first | have h_tx := RC_tx_av hk3 (by rfl) h_tx | skip); (first | (have hk0 := hkA; clear hk0; have hkB := hk3; (try have hpB := hp); (have hx := cu_fault hpA hpB hkA hkB hCI o_tx; (try dsimp only at hx))) | (have hkA := hk3; (try have hpA := hp); skip)))
       | (obtain ⟨Z', x, rfl, rfl, hI2, hk2⟩ := hq; (first | have hk3 := kp_of hk2 | have hk3 := hk2); (first | have hZ := LI_av hZ hI2 hk3 (by rfl) | have hZ := LI_e1 hZ hI2 hk3 hp.1 (by rfl) | skip); (first | have h_tx := RC_tx_av hk3 (by rfl) h_tx | skip); (first | (have hk0 := hkA; clear hk0; have hkB := hk3; (try have hpB := hp); (have hx := cu_fault hpA hpB hkA hkB hCI o_tx; (try dsimp only at hx))) | (have hkA := hk3; (try have hpA := hp); skip)))
       | (rcases hq with ⟨Z', rfl, rfl, hI2, hk2⟩ | ⟨Z', rfl, rfl, hI2, hk2⟩ <;> ((first | have hk3 := kp_of hk2 | have hk3 := hk2); (first | have hZ := LI_av hZ hI2 hk3 (by rfl) | have hZ := LI_e1 hZ hI2 hk3 hp.1 (by rfl) | skip); (first | have h_tx := RC_tx_av hk3 (by rfl) h_tx | skip); (first | (have hk0 := hkA; clear hk0; have hkB := hk3; (try have hpB := hp); (have hx := cu_fault hpA hpB hkA hkB hCI o_tx; (try dsimp only at hx))) | (have hkA := hk3; (try have hpA := hp); skip))))
       | (obtain ⟨Z', rfl, rfl, hI2, hk2, hp⟩ := hq; (first | have hk3 := kp_of hk2 | have hk3 := hk2); (first | have hZ := LI_av hZ hI2 hk3 (by rfl) | have hZ := LI_e1 hZ hI2 hk3 hp.1 (by rfl) | skip); (first | have h_tx := RC_tx_av hk3 (by rfl) h_tx | skip); (first | (have hk0 := hkA; clear hk0; have hkB := hk3; (try have hpB := hp); (have hx := cu_fault hpA hpB hkA hkB hCI o_tx; (try dsimp only at hx))) | (have hkA := hk3; (try have hpA := hp); skip)))
       | (obtain ⟨Z', rfl, rfl, hI2, hk2⟩ := hq; (first | have hk3 := kp_of hk2 | have hk3 := hk2); (first | have hZ := LI_av hZ hI2 hk3 (by rfl) | have hZ := LI_e1 hZ hI2 hk3 hp.1 (by rfl) | skip); (first | have h_tx := RC_tx_av hk3 (by rfl) h_tx | skip); (first | (have hk0 := hkA; clear hk0; have hkB := hk3; (try have hpB := hp); (have hx := cu_fault hpA hpB hkA hkB hCI o_tx; (try dsimp only at hx))) | (have hkA := hk3; (try have hpA := hp); skip))))
    | (intro hc; (try simp only [cmp3_c] at hc); simp only [cmpI] at hc))
  all_goals first
    | with_reducible rfl
    | ((with_reducible show recvG _ _); rfl)
    | with_reducible exact trivial
    | ((with_reducible show BYT (bC _)); exact tx_byC h_tx)
    | ((with_reducible show BYT (mB _)); exact tx_byM h_tx)
    | ((with_reducible show CI _); exact hZ.1)
    | ((with_reducible show E1 _); exact hZ.2.1)
    | ((with_reducible show EB _); exact hZ.2.2.1)
    | ((with_reducible show KB _); exact hZ.2.2.2.1)
    | ((with_reducible show KE _); exact hZ.2.2.2.2)
    | (refine hG.2 1299 _ [(0, vr 0), (1, vr 1), (2, vr 100), (3, vi i)] _ _ rfl ?_; exact hE _ hZ ⟨(by assumption), trivial⟩)
    | decide
    | (refine (sx hi hL (k := 0) (by decide) ?_).1; simp (disch := omega) only [w32_id]; omega)
    | (with_reducible refine (sx hi hL ?_ rfl).1; decide)
    | (with_reducible refine (sx hi hL ?_ rfl).2; decide)
    | omega
    | (dsimp only; omega)
    | (exfalso; omega)
    | rfl
    | skip

set_option maxRecDepth 100000 in
set_option maxHeartbeats 40000000 in
theorem lc_6 {L : Nat} {xs : Nat → Int} {G : GT} (hG : Clo MCL 130 (some (L, xs)) QL G) {i : Int} (hi : 0 ≤ i ∧ i + 7 ≤ (L : Int)) (hL : L ≤ 3584) {Z : ZT} (hZ : LI Z) (hR : RLX Z) (hE : ∀ Z1, LI Z1 → RLX Z1 → G 1299 [(0, vr 0), (1, vr 1), (2, vr 100), (3, vi i)] [] (130, Z1, R0)) : G 368 [(0, vr 0), (1, vr 1), (2, vr 100), (3, vi i)] [] (130, Z, R0) := by
  obtain ⟨h_tx, -⟩ := hR
  have o_tx := h_tx
  have hCI := hZ.1
  have htx0 : 0 ≤ Z 6 1 ∧ Z 6 1 ≤ 160 := by (have q := hCI 100 5 0 160 rfl; have q2 := h_tx.1; omega)
  refine wp_run hG [1299] 200 _ _ _ _ ?_
  repeat' (first
    | with_reducible rfl
    | ((with_reducible show BYT (bC _)); exact tx_byC h_tx)
    | ((with_reducible show BYT (mB _)); exact tx_byM h_tx)
    | refine And.intro ?_ ?_
    | (intro (r : Option PV) σ' hq
       first
       | (obtain ⟨rfl, rfl⟩ := hq)
       | (obtain ⟨rfl, x, rfl, hp⟩ := hq; (try replace hp : _ ∧ _ := hp); (try dsimp only at hp))
       | (obtain ⟨Z', x, rfl, rfl, hI2, hk2, hp⟩ := hq; (try replace hp : _ ∧ _ := hp); (try dsimp only at hp); (first | have hk3 := kp_of hk2 | have hk3 := hk2); (first | have hZ := LI_av hZ hI2 hk3 (by rfl) | have hZ := LI_e1 hZ hI2 hk3 hp.1 (by rfl) | skip); (first | have h_tx := RC_tx_av hk3 (by rfl) h_tx | skip); (first | (have hk0 := hkA; clear hk0; have hkB := hk3; (try have hpB := hp); (have hx := cu_plan8 hpA hpB hkA hkB hCI o_tx; (try dsimp only at hx))) | (have hkA := hk3; (try have hpA := hp); skip)))
       | (obtain ⟨Z', x, rfl, rfl, hI2, hk2⟩ := hq; (first | have hk3 := kp_of hk2 | have hk3 := hk2); (first | have hZ := LI_av hZ hI2 hk3 (by rfl) | have hZ := LI_e1 hZ hI2 hk3 hp.1 (by rfl) | skip); (first | have h_tx := RC_tx_av hk3 (by rfl) h_tx | skip); (first | (have hk0 := hkA; clear hk0; have hkB := hk3; (try have hpB := hp); (have hx := cu_plan8 hpA hpB hkA hkB hCI o_tx; (try dsimp only at hx))) | (have hkA := hk3; (try have hpA := hp); skip)))
       | (rcases hq with ⟨Z', rfl, rfl, hI2, hk2⟩ | ⟨Z', rfl, rfl, hI2, hk2⟩ <;> ((first | have hk3 := kp_of hk2 | have hk3 := hk2); (first | have hZ := LI_av hZ hI2 hk3 (by rfl) | have hZ := LI_e1 hZ hI2 hk3 hp.1 (by rfl) | skip); (first | have h_tx := RC_tx_av hk3 (by rfl) h_tx | skip); (first | (have hk0 := hkA; clear hk0; have hkB := hk3; (try have hpB := hp); (have hx := cu_plan8 hpA hpB hkA hkB hCI o_tx; (try dsimp only at hx))) | (have hkA := hk3; (try have hpA := hp); skip))))
       | (obtain ⟨Z', rfl, rfl, hI2, hk2, hp⟩ := hq; (first | have hk3 := kp_of hk2 | have hk3 := hk2); (first | have hZ := LI_av hZ hI2 hk3 (by rfl) | have hZ := LI_e1 hZ hI2 hk3 hp.1 (by rfl) | skip); (first | have h_tx := RC_tx_av hk3 (by rfl) h_tx | skip); (first | (have hk0 := hkA; clear hk0; have hkB := hk3; (try have hpB := hp); (have hx := cu_plan8 hpA hpB hkA hkB hCI o_tx; (try dsimp only at hx))) | (have hkA := hk3; (try have hpA := hp); skip)))
       | (obtain ⟨Z', rfl, rfl, hI2, hk2⟩ := hq; (first | have hk3 := kp_of hk2 | have hk3 := hk2); (first | have hZ := LI_av hZ hI2 hk3 (by rfl) | have hZ := LI_e1 hZ hI2 hk3 hp.1 (by rfl) | skip); (first | have h_tx := RC_tx_av hk3 (by rfl) h_tx | skip); (first | (have hk0 := hkA; clear hk0; have hkB := hk3; (try have hpB := hp); (have hx := cu_plan8 hpA hpB hkA hkB hCI o_tx; (try dsimp only at hx))) | (have hkA := hk3; (try have hpA := hp); skip))))
    | (intro hc; (try simp only [cmp3_c] at hc); simp only [cmpI] at hc))
  all_goals first
    | with_reducible rfl
    | ((with_reducible show recvG _ _); rfl)
    | with_reducible exact trivial
    | ((with_reducible show BYT (bC _)); exact tx_byC h_tx)
    | ((with_reducible show BYT (mB _)); exact tx_byM h_tx)
    | ((with_reducible show CI _); exact hZ.1)
    | ((with_reducible show E1 _); exact hZ.2.1)
    | ((with_reducible show EB _); exact hZ.2.2.1)
    | ((with_reducible show KB _); exact hZ.2.2.2.1)
    | ((with_reducible show KE _); exact hZ.2.2.2.2)
    | (refine hG.2 1299 _ [(0, vr 0), (1, vr 1), (2, vr 100), (3, vi i)] _ _ rfl ?_; exact hE _ hZ ⟨(by assumption), trivial⟩)
    | decide
    | (refine (sx hi hL (k := 0) (by decide) ?_).1; simp (disch := omega) only [w32_id]; omega)
    | (with_reducible refine (sx hi hL ?_ rfl).1; decide)
    | (with_reducible refine (sx hi hL ?_ rfl).2; decide)
    | omega
    | (dsimp only; omega)
    | (exfalso; omega)
    | rfl
    | skip

set_option maxRecDepth 100000 in
set_option maxHeartbeats 40000000 in
theorem lc_7 {L : Nat} {xs : Nat → Int} {G : GT} (hG : Clo MCL 130 (some (L, xs)) QL G) {i : Int} (hi : 0 ≤ i ∧ i + 7 ≤ (L : Int)) (hL : L ≤ 3584) {Z : ZT} (hZ : LI Z) (hR : RLX Z) (hE : ∀ Z1, LI Z1 → RLX Z1 → G 1299 [(0, vr 0), (1, vr 1), (2, vr 100), (3, vi i)] [] (130, Z1, R0)) : G 381 [(0, vr 0), (1, vr 1), (2, vr 100), (3, vi i)] [] (130, Z, R0) := by
  obtain ⟨h_tx, -⟩ := hR
  have o_tx := h_tx
  have hCI := hZ.1
  have htx0 : 0 ≤ Z 6 1 ∧ Z 6 1 ≤ 160 := by (have q := hCI 100 5 0 160 rfl; have q2 := h_tx.1; omega)
  refine wp_run hG [1299] 200 _ _ _ _ ?_
  repeat' (first
    | with_reducible rfl
    | ((with_reducible show BYT (bC _)); exact tx_byC h_tx)
    | ((with_reducible show BYT (mB _)); exact tx_byM h_tx)
    | refine And.intro ?_ ?_
    | (intro (r : Option PV) σ' hq
       first
       | (obtain ⟨rfl, rfl⟩ := hq)
       | (obtain ⟨rfl, x, rfl, hp⟩ := hq; (try replace hp : _ ∧ _ := hp); (try dsimp only at hp))
       | (obtain ⟨Z', x, rfl, rfl, hI2, hk2, hp⟩ := hq; (try replace hp : _ ∧ _ := hp); (try dsimp only at hp); (first | have hk3 := kp_of hk2 | have hk3 := hk2); (first | have hZ := LI_av hZ hI2 hk3 (by rfl) | skip); (first | have h_tx := RC_tx_av hk3 (by rfl) h_tx | skip))
       | (obtain ⟨Z', x, rfl, rfl, hI2, hk2⟩ := hq; (first | have hk3 := kp_of hk2 | have hk3 := hk2); (first | have hZ := LI_av hZ hI2 hk3 (by rfl) | skip); (first | have h_tx := RC_tx_av hk3 (by rfl) h_tx | skip))
       | (rcases hq with ⟨Z', rfl, rfl, hI2, hk2⟩ | ⟨Z', rfl, rfl, hI2, hk2⟩ <;> ((first | have hk3 := kp_of hk2 | have hk3 := hk2); (first | have hZ := LI_av hZ hI2 hk3 (by rfl) | skip); (first | have h_tx := RC_tx_av hk3 (by rfl) h_tx | skip)))
       | (obtain ⟨Z', rfl, rfl, hI2, hk2, hp⟩ := hq; (first | have hk3 := kp_of hk2 | have hk3 := hk2); (first | have hZ := LI_av hZ hI2 hk3 (by rfl) | skip); (first | have h_tx := RC_tx_av hk3 (by rfl) h_tx | skip))
       | (obtain ⟨Z', rfl, rfl, hI2, hk2⟩ := hq; (first | have hk3 := kp_of hk2 | have hk3 := hk2); (first | have hZ := LI_av hZ hI2 hk3 (by rfl) | skip); (first | have h_tx := RC_tx_av hk3 (by rfl) h_tx | skip)))
    | (intro hc; (try simp only [cmp3_c] at hc); simp only [cmpI] at hc))
  all_goals first
    | with_reducible rfl
    | ((with_reducible show recvG _ _); rfl)
    | with_reducible exact trivial
    | ((with_reducible show BYT (bC _)); exact tx_byC h_tx)
    | ((with_reducible show BYT (mB _)); exact tx_byM h_tx)
    | ((with_reducible show CI _); exact hZ.1)
    | ((with_reducible show E1 _); exact hZ.2.1)
    | ((with_reducible show EB _); exact hZ.2.2.1)
    | ((with_reducible show KB _); exact hZ.2.2.2.1)
    | ((with_reducible show KE _); exact hZ.2.2.2.2)
    | (refine hG.2 1299 _ [(0, vr 0), (1, vr 1), (2, vr 100), (3, vi i)] _ _ rfl ?_; exact hE _ hZ ⟨(by assumption), trivial⟩)
    | decide
    | (refine (sx hi hL (k := 0) (by decide) ?_).1; simp (disch := omega) only [w32_id]; omega)
    | (with_reducible refine (sx hi hL ?_ rfl).1; decide)
    | (with_reducible refine (sx hi hL ?_ rfl).2; decide)
    | omega
    | (dsimp only; omega)
    | (exfalso; omega)
    | rfl
    | skip

set_option maxRecDepth 100000 in
set_option maxHeartbeats 40000000 in
theorem lc_8 {L : Nat} {xs : Nat → Int} {G : GT} (hG : Clo MCL 130 (some (L, xs)) QL G) {i : Int} (hi : 0 ≤ i ∧ i + 7 ≤ (L : Int)) (hL : L ≤ 3584) {Z : ZT} (hZ : LI Z) (hR : RLX Z) (hE : ∀ Z1, LI Z1 → RLX Z1 → G 1299 [(0, vr 0), (1, vr 1), (2, vr 100), (3, vi i)] [] (130, Z1, R0)) : G 414 [(0, vr 0), (1, vr 1), (2, vr 100), (3, vi i)] [] (130, Z, R0) := by
  obtain ⟨h_tx, -⟩ := hR
  have o_tx := h_tx
  have hCI := hZ.1
  have htx0 : 0 ≤ Z 6 1 ∧ Z 6 1 ≤ 160 := by (have q := hCI 100 5 0 160 rfl; have q2 := h_tx.1; omega)
  refine wp_run hG [1299] 200 _ _ _ _ ?_
  repeat' (first
    | with_reducible rfl
    | ((with_reducible show BYT (bC _)); exact tx_byC h_tx)
    | ((with_reducible show BYT (mB _)); exact tx_byM h_tx)
    | refine And.intro ?_ ?_
    | (intro (r : Option PV) σ' hq
       first
       | (obtain ⟨rfl, rfl⟩ := hq)
       | (obtain ⟨rfl, x, rfl, hp⟩ := hq; (try replace hp : _ ∧ _ := hp); (try dsimp only at hp))
       | (obtain ⟨Z', x, rfl, rfl, hI2, hk2, hp⟩ := hq; (try replace hp : _ ∧ _ := hp); (try dsimp only at hp); (first | have hk3 := kp_of hk2 | have hk3 := hk2); (first | have hZ := LI_av hZ hI2 hk3 (by rfl) | skip); (first | have h_tx := RC_tx_av hk3 (by rfl) h_tx | skip))
       | (obtain ⟨Z', x, rfl, rfl, hI2, hk2⟩ := hq; (first | have hk3 := kp_of hk2 | have hk3 := hk2); (first | have hZ := LI_av hZ hI2 hk3 (by rfl) | skip); (first | have h_tx := RC_tx_av hk3 (by rfl) h_tx | skip))
       | (rcases hq with ⟨Z', rfl, rfl, hI2, hk2⟩ | ⟨Z', rfl, rfl, hI2, hk2⟩ <;> ((first | have hk3 := kp_of hk2 | have hk3 := hk2); (first | have hZ := LI_av hZ hI2 hk3 (by rfl) | skip); (first | have h_tx := RC_tx_av hk3 (by rfl) h_tx | skip)))
       | (obtain ⟨Z', rfl, rfl, hI2, hk2, hp⟩ := hq; (first | have hk3 := kp_of hk2 | have hk3 := hk2); (first | have hZ := LI_av hZ hI2 hk3 (by rfl) | skip); (first | have h_tx := RC_tx_av hk3 (by rfl) h_tx | skip))
       | (obtain ⟨Z', rfl, rfl, hI2, hk2⟩ := hq; (first | have hk3 := kp_of hk2 | have hk3 := hk2); (first | have hZ := LI_av hZ hI2 hk3 (by rfl) | skip); (first | have h_tx := RC_tx_av hk3 (by rfl) h_tx | skip)))
    | (intro hc; (try simp only [cmp3_c] at hc); simp only [cmpI] at hc))
  all_goals first
    | with_reducible rfl
    | ((with_reducible show recvG _ _); rfl)
    | with_reducible exact trivial
    | ((with_reducible show BYT (bC _)); exact tx_byC h_tx)
    | ((with_reducible show BYT (mB _)); exact tx_byM h_tx)
    | ((with_reducible show CI _); exact hZ.1)
    | ((with_reducible show E1 _); exact hZ.2.1)
    | ((with_reducible show EB _); exact hZ.2.2.1)
    | ((with_reducible show KB _); exact hZ.2.2.2.1)
    | ((with_reducible show KE _); exact hZ.2.2.2.2)
    | (refine hG.2 1299 _ [(0, vr 0), (1, vr 1), (2, vr 100), (3, vi i)] _ _ rfl ?_; exact hE _ hZ ⟨(by assumption), trivial⟩)
    | decide
    | (refine (sx hi hL (k := 0) (by decide) ?_).1; simp (disch := omega) only [w32_id]; omega)
    | (with_reducible refine (sx hi hL ?_ rfl).1; decide)
    | (with_reducible refine (sx hi hL ?_ rfl).2; decide)
    | omega
    | (dsimp only; omega)
    | (exfalso; omega)
    | rfl
    | skip
