/-! ===== the law: its cases ===== -/
abbrev MCL : Mc := (tb_L, PL, clL, oiN, 1, 0)
def QL (r : Option PV) (_ : St) : Prop := r = some (vi 1)
def liS (S : List Nat) : Bool := avo S 104 && (avo S 107 && (avo S 128 && (avo S 121 && (!(S.elem 100) && !(S.elem 31100)))))
theorem LI_av {S : List Nat} {Z Z' : ZT} (h : LI Z) (hI : CI Z') (hk : kp S Z Z') (hS : liS S = true) : LI Z' := by
  unfold liS at hS
  simp only [Bool.and_eq_true] at hS
  obtain ⟨h1, h2, h3, h4, h5, h6⟩ := hS
  have e4 := kp_av hk h1 (by decide)
  have e7 := kp_av hk h2 (by decide)
  have e8 := kp_av hk h3 (by decide)
  have e1 := kp_av hk h4 (by decide)
  have e30 : Z' 100 30 = Z 100 30 := hk 100 30 (by decide) (by simpa using h5) (by simpa using h6)
  exact ⟨hI, E1_eq e4 e7 h.2.1, EB_o e8 h.2.2.1, KB_o e1 h.2.2.2.1, KE_c e1 h.2.2.2.2 (Int.le_of_eq e30)⟩
/-- all but what lies on the lines -/
theorem LI_e1 {S : List Nat} {Z Z' : ZT} (h : LI Z) (hI : CI Z') (hk : kp S Z Z') (hE : E1 Z') (hS : (avo S 128 && (avo S 121 && (!(S.elem 100) && !(S.elem 31100)))) = true) : LI Z' := by
  simp only [Bool.and_eq_true] at hS
  obtain ⟨h3, h4, h5, h6⟩ := hS
  have e8 := kp_av hk h3 (by decide)
  have e1 := kp_av hk h4 (by decide)
  have e30 : Z' 100 30 = Z 100 30 := hk 100 30 (by decide) (by simpa using h5) (by simpa using h6)
  exact ⟨hI, hE, EB_o e8 h.2.2.1, KB_o e1 h.2.2.2.1, KE_c e1 h.2.2.2.2 (Int.le_of_eq e30)⟩
/-- all but the minutes -/
theorem LI_eb {S : List Nat} {Z Z' : ZT} (h : LI Z) (hI : CI Z') (hk : kp S Z Z') (hE : EB Z') (hS : (avo S 104 && (avo S 107 && (avo S 121 && (!(S.elem 100) && !(S.elem 31100))))) = true) : LI Z' := by
  simp only [Bool.and_eq_true] at hS
  obtain ⟨h3, h2, h4, h5, h6⟩ := hS
  have e4 := kp_av hk h3 (by decide)
  have e7 := kp_av hk h2 (by decide)
  have e1 := kp_av hk h4 (by decide)
  have e30 : Z' 100 30 = Z 100 30 := hk 100 30 (by decide) (by simpa using h5) (by simpa using h6)
  exact ⟨hI, E1_eq e4 e7 h.2.1, hE, KB_o e1 h.2.2.2.1, KE_c e1 h.2.2.2.2 (Int.le_of_eq e30)⟩
/-- what is kept, brought back -/
theorem LI_k {S : List Nat} {Z Z' : ZT} (h : LI Z) (hI : CI Z') (hk : kp S Z Z') (hB : KB Z') (hE : E1 Z') (hK : KE Z') (hS : avo S 128 = true) : LI Z' := ⟨hI, hE, EB_o (kp_av hk hS (by decide)) h.2.2.1, hB, hK⟩
/-- what is kept is dropped, perhaps -/
theorem LI_sky {S : List Nat} {Z Z' : ZT} (h : LI Z) (hI : CI Z') (hk : kp S Z Z') (hq : Z' 100 30 = Z 100 30 ∨ Z' 100 30 = 0) (hS : (avo S 104 && (avo S 107 && (avo S 128 && avo S 121))) = true) : LI Z' := by
  simp only [Bool.and_eq_true] at hS
  obtain ⟨h1, h2, h3, h4⟩ := hS
  have e4 := kp_av hk h1 (by decide)
  have e7 := kp_av hk h2 (by decide)
  have e8 := kp_av hk h3 (by decide)
  have e1 := kp_av hk h4 (by decide)
  have q := h.1 100 30 0 2 rfl
  exact ⟨hI, E1_eq e4 e7 h.2.1, EB_o e8 h.2.2.1, KB_o e1 h.2.2.2.1, KE_c e1 h.2.2.2.2 (by omega)⟩
theorem sx {L : Nat} {i k x : Int} (h : 0 ≤ i ∧ i + 7 ≤ (L : Int)) (hL : L ≤ 3584) (hk : 0 ≤ k ∧ k ≤ 6) (hx : x = w32 (i + k)) : 0 ≤ x ∧ x < (L : Int) := by
  subst hx
  rw [w32_id (by omega) (by omega)]
  omega
/-- how many are kept -/
def RC_stG (Z : ZT) : Prop := Z 1 5 = Z 100 30
theorem RC_stG_av {S : List Nat} {Z Z' : ZT} (hk : kp S Z Z') (hS : ((!(S.elem 1) && !(S.elem 6001)) && (!(S.elem 100) && !(S.elem 31100))) = true) (h : RC_stG Z) : RC_stG Z' := by
  simp only [Bool.and_eq_true, Bool.not_eq_true'] at hS
  obtain ⟨⟨f0, g0⟩, ⟨f1, g1⟩⟩ := hS
  have d0 : Z' 1 5 = Z 1 5 := hk 1 5 (by decide) (by simpa using f0) (by simpa using g0)
  have d1 : Z' 100 30 = Z 100 30 := hk 100 30 (by decide) (by simpa using f1) (by simpa using g1)
  unfold RC_stG at h ⊢
  simp only [d0, d1]
  exact h
/-- the text's bytes -/
def RC_tx (Z : ZT) : Prop := Z 6 1 = Z 100 5 ∧ ∀ k : Nat, (k : Int) < Z 6 1 → Z 7 k = Z 102 k ∧ 0 ≤ Z 7 k ∧ Z 7 k ≤ 255
theorem RC_tx_av {S : List Nat} {Z Z' : ZT} (hk : kp S Z Z') (hS : (avo S 7 && (avo S 102 && ((!(S.elem 6) && !(S.elem 2006)) && (!(S.elem 100) && !(S.elem 6100))))) = true) (h : RC_tx Z) : RC_tx Z' := by
  simp only [Bool.and_eq_true, Bool.not_eq_true'] at hS
  obtain ⟨h0, h1, ⟨f0, g0⟩, ⟨f1, g1⟩⟩ := hS
  have e0 : Z' 7 = Z 7 := kp_av hk h0 (by decide)
  have e1 : Z' 102 = Z 102 := kp_av hk h1 (by decide)
  have d0 : Z' 6 1 = Z 6 1 := hk 6 1 (by decide) (by simpa using f0) (by simpa using g0)
  have d1 : Z' 100 5 = Z 100 5 := hk 100 5 (by decide) (by simpa using f1) (by simpa using g1)
  unfold RC_tx at h ⊢
  simp only [e0, e1, d0, d1]
  exact h
/-- the plan -/
def RC_pn (Z : ZT) : Prop := PNR Z 19 (KF Z)
theorem RC_pn_av {S : List Nat} {Z Z' : ZT} (hk : kp S Z Z') (hS : (avo S 19 && (avo S 20 && (avo S 21 && (avo S 22 && (avo S 23 && (avo S 24 && (avo S 25 && (avo S 26 && (avo S 27 && (avo S 28 && (avo S 103 && (avo S 104 && (avo S 105 && (avo S 106 && (avo S 107 && (avo S 108 && (avo S 109 && (avo S 110 && (avo S 111 && (!(S.elem 100) && !(S.elem 8100))))))))))))))))))))) = true) (h : RC_pn Z) : RC_pn Z' := by
  simp only [Bool.and_eq_true, Bool.not_eq_true'] at hS
  obtain ⟨h0, h1, h2, h3, h4, h5, h6, h7, h8, h9, h10, h11, h12, h13, h14, h15, h16, h17, h18, ⟨f0, g0⟩⟩ := hS
  have e0 : Z' 19 = Z 19 := kp_av hk h0 (by decide)
  have e1 : Z' 20 = Z 20 := kp_av hk h1 (by decide)
  have e2 : Z' 21 = Z 21 := kp_av hk h2 (by decide)
  have e3 : Z' 22 = Z 22 := kp_av hk h3 (by decide)
  have e4 : Z' 23 = Z 23 := kp_av hk h4 (by decide)
  have e5 : Z' 24 = Z 24 := kp_av hk h5 (by decide)
  have e6 : Z' 25 = Z 25 := kp_av hk h6 (by decide)
  have e7 : Z' 26 = Z 26 := kp_av hk h7 (by decide)
  have e8 : Z' 27 = Z 27 := kp_av hk h8 (by decide)
  have e9 : Z' 28 = Z 28 := kp_av hk h9 (by decide)
  have e10 : Z' 103 = Z 103 := kp_av hk h10 (by decide)
  have e11 : Z' 104 = Z 104 := kp_av hk h11 (by decide)
  have e12 : Z' 105 = Z 105 := kp_av hk h12 (by decide)
  have e13 : Z' 106 = Z 106 := kp_av hk h13 (by decide)
  have e14 : Z' 107 = Z 107 := kp_av hk h14 (by decide)
  have e15 : Z' 108 = Z 108 := kp_av hk h15 (by decide)
  have e16 : Z' 109 = Z 109 := kp_av hk h16 (by decide)
  have e17 : Z' 110 = Z 110 := kp_av hk h17 (by decide)
  have e18 : Z' 111 = Z 111 := kp_av hk h18 (by decide)
  have d0 : Z' 100 7 = Z 100 7 := hk 100 7 (by decide) (by simpa using f0) (by simpa using g0)
  have ho : ∀ o, 19 ≤ o → o ≤ 28 → Z' o = Z o := fun o h1 h2 => by
    have hc : o = 19 ∨ o = 20 ∨ o = 21 ∨ o = 22 ∨ o = 23 ∨ o = 24 ∨ o = 25 ∨ o = 26 ∨ o = 27 ∨ o = 28 := by omega
    rcases hc with rfl | rfl | rfl | rfl | rfl | rfl | rfl | rfl | rfl | rfl <;> assumption
  have hm : ∀ o, 103 ≤ o → o ≤ 111 → Z' o = Z o := fun o h1 h2 => by
    have hc : o = 103 ∨ o = 104 ∨ o = 105 ∨ o = 106 ∨ o = 107 ∨ o = 108 ∨ o = 109 ∨ o = 110 ∨ o = 111 := by omega
    rcases hc with rfl | rfl | rfl | rfl | rfl | rfl | rfl | rfl | rfl <;> assumption
  exact PNR_f (PNR_o ho h) (KF_low d0 (LOW_o hm))
/-- the plans kept -/
def RC_sp (Z : ZT) : Prop := (1 ≤ Z 1 5 → PNR Z 37 (fun i => Z 121 (700 * 0 + i).toNat)) ∧ (2 ≤ Z 1 5 → PNR Z 54 (fun i => Z 121 (700 * 1 + i).toNat))
theorem RC_sp_av {S : List Nat} {Z Z' : ZT} (hk : kp S Z Z') (hS : (avo S 37 && (avo S 38 && (avo S 39 && (avo S 40 && (avo S 41 && (avo S 42 && (avo S 43 && (avo S 44 && (avo S 45 && (avo S 46 && (avo S 54 && (avo S 55 && (avo S 56 && (avo S 57 && (avo S 58 && (avo S 59 && (avo S 60 && (avo S 61 && (avo S 62 && (avo S 63 && (avo S 121 && (!(S.elem 1) && !(S.elem 6001))))))))))))))))))))))) = true) (h : RC_sp Z) : RC_sp Z' := by
  simp only [Bool.and_eq_true, Bool.not_eq_true'] at hS
  obtain ⟨h0, h1, h2, h3, h4, h5, h6, h7, h8, h9, h10, h11, h12, h13, h14, h15, h16, h17, h18, h19, h20, ⟨f0, g0⟩⟩ := hS
  have e0 : Z' 37 = Z 37 := kp_av hk h0 (by decide)
  have e1 : Z' 38 = Z 38 := kp_av hk h1 (by decide)
  have e2 : Z' 39 = Z 39 := kp_av hk h2 (by decide)
  have e3 : Z' 40 = Z 40 := kp_av hk h3 (by decide)
  have e4 : Z' 41 = Z 41 := kp_av hk h4 (by decide)
  have e5 : Z' 42 = Z 42 := kp_av hk h5 (by decide)
  have e6 : Z' 43 = Z 43 := kp_av hk h6 (by decide)
  have e7 : Z' 44 = Z 44 := kp_av hk h7 (by decide)
  have e8 : Z' 45 = Z 45 := kp_av hk h8 (by decide)
  have e9 : Z' 46 = Z 46 := kp_av hk h9 (by decide)
  have e10 : Z' 54 = Z 54 := kp_av hk h10 (by decide)
  have e11 : Z' 55 = Z 55 := kp_av hk h11 (by decide)
  have e12 : Z' 56 = Z 56 := kp_av hk h12 (by decide)
  have e13 : Z' 57 = Z 57 := kp_av hk h13 (by decide)
  have e14 : Z' 58 = Z 58 := kp_av hk h14 (by decide)
  have e15 : Z' 59 = Z 59 := kp_av hk h15 (by decide)
  have e16 : Z' 60 = Z 60 := kp_av hk h16 (by decide)
  have e17 : Z' 61 = Z 61 := kp_av hk h17 (by decide)
  have e18 : Z' 62 = Z 62 := kp_av hk h18 (by decide)
  have e19 : Z' 63 = Z 63 := kp_av hk h19 (by decide)
  have e20 : Z' 121 = Z 121 := kp_av hk h20 (by decide)
  have d0 : Z' 1 5 = Z 1 5 := hk 1 5 (by decide) (by simpa using f0) (by simpa using g0)
  have hA : ∀ o, 37 ≤ o → o ≤ 46 → Z' o = Z o := fun o h1 h2 => by
    have hc : o = 37 ∨ o = 38 ∨ o = 39 ∨ o = 40 ∨ o = 41 ∨ o = 42 ∨ o = 43 ∨ o = 44 ∨ o = 45 ∨ o = 46 := by omega
    rcases hc with rfl | rfl | rfl | rfl | rfl | rfl | rfl | rfl | rfl | rfl <;> assumption
  have hB : ∀ o, 54 ≤ o → o ≤ 63 → Z' o = Z o := fun o h1 h2 => by
    have hc : o = 54 ∨ o = 55 ∨ o = 56 ∨ o = 57 ∨ o = 58 ∨ o = 59 ∨ o = 60 ∨ o = 61 ∨ o = 62 ∨ o = 63 := by omega
    rcases hc with rfl | rfl | rfl | rfl | rfl | rfl | rfl | rfl | rfl | rfl <;> assumption
  have e1 : Z' 121 = Z 121 := by assumption
  exact ⟨fun g => SP_o hA (fun i _ _ => by rw [e1]) (h.1 (by omega)), fun g => SP_o hB (fun i _ _ => by rw [e1]) (h.2 (by omega))⟩
theorem kp_cls {S : List Nat} {Z Z' : ZT} (h : kp S Z Z') (hS : S.all (fun e => Nat.ble (e % 1000) 99) = true) : ∀ o, 100 ≤ o → o ≤ 130 → Z' o = Z o := fun o h1 h2 => funext fun k => by
  refine h o k (by omega) (fun z => ?_) (fun z => ?_)
  · have w := Nat.le_of_ble_eq_true (List.all_eq_true.mp hS _ z)
    omega
  · have w := Nat.le_of_ble_eq_true (List.all_eq_true.mp hS _ z)
    omega
theorem kp_mod {S : List Nat} {Z Z' : ZT} (h : kp S Z Z') (hS : S.all (fun e => Nat.ble 100 (e % 1000)) = true) : ∀ o, o ≤ 99 → Z' o = Z o := fun o h1 => funext fun k => by
  refine h o k (by omega) (fun z => ?_) (fun z => ?_)
  · have w := Nat.le_of_ble_eq_true (List.all_eq_true.mp hS _ z)
    omega
  · have w := Nat.le_of_ble_eq_true (List.all_eq_true.mp hS _ z)
    omega
theorem tx_b {Z ZA : ZT} (h : RC_tx Z) (m : ZA 102 = Z 102) (m5 : ZA 100 5 = Z 100 5) : mB ZA = bC Z := by
  obtain ⟨h1, h2⟩ := h
  funext k
  unfold mB bC
  rw [m, m5, ← h1]
  by_cases hq : 0 ≤ k ∧ k < Z 6 1 ∧ k < 160
  · rw [if_pos hq, if_pos hq]
    exact (h2 k.toNat (by omega)).1.symm
  · rw [if_neg hq, if_neg hq]
theorem tx_byC {Z : ZT} (h : RC_tx Z) : BYT (bC Z) := by
  obtain ⟨h1, h2⟩ := h
  intro k
  unfold bC
  by_cases hq : 0 ≤ k ∧ k < Z 6 1 ∧ k < 160
  · rw [if_pos hq]
    have := h2 k.toNat (by omega)
    omega
  · rw [if_neg hq]
    omega
theorem tx_byM {Z : ZT} (h : RC_tx Z) : BYT (mB Z) := by
  rw [tx_b h rfl rfl]
  exact tx_byC h
theorem pn_0 {Z : ZT} (h0 : Z 19 0 = 0) (h1 : Z 19 1 = 0) (o : OI Z 20 4) (q : FL Z 21 (-1) 4) (m7 : Z 100 7 = 0) (m4 : ∀ k : Nat, k < 4 → Z 104 k = -4) : RC_pn Z := by
  refine PNR_0 (d := 19) h0 h1 o q (by rw [KFp_0]; exact m7) (fun l hl => ?_)
  rw [KFp_11 hl, m4 l hl]
  decide
/-- fewer kept, and those as they were -/
theorem sp_less {Z ZB : ZT} (h5 : ZB 1 5 ≤ Z 1 5) (hA : ∀ o, 36 ≤ o → o ≤ 69 → ZB o = Z o) (e1 : ZB 121 = Z 121) (h : RC_sp Z) : RC_sp ZB := by
  unfold RC_sp at h ⊢
  exact ⟨fun g => SP_o (fun o h1 h2 => hA o (by omega) (by omega)) (fun i _ _ => by rw [e1]) (h.1 (by omega)), fun g => SP_o (fun o h1 h2 => hA o (by omega) (by omega)) (fun i _ _ => by rw [e1]) (h.2 (by omega))⟩
theorem cu_write_tx {Z ZA ZB : ZT} { a1 a2 xA xB : Int} (pA : (xA = -1 ∧ ¬(1 ≤ a1 ∧ a1 ≤ 8) ∧ ZA 6 1 = Z 6 1 ∧ ZA 7 = Z 7 ∨ xA = -3 ∧ (1 ≤ a1 ∧ a1 ≤ 8) ∧ 160 < Z 6 1 + a1 ∧ ZA 6 1 = Z 6 1 ∧ ZA 7 = Z 7 ∨ xA = Z 6 1 + a1 ∧ (1 ≤ a1 ∧ a1 ≤ 8) ∧ Z 6 1 + a1 ≤ 160 ∧ ZA 6 1 = Z 6 1 + a1 ∧ WRB Z ZA 7 (Z 6 1) a1 (-1) a2) ∧ True) (pB : (xB = -1 ∧ ¬(1 ≤ a1 ∧ a1 ≤ 8) ∧ ZB 100 5 = ZA 100 5 ∧ ZB 102 = ZA 102 ∨ xB = -3 ∧ (1 ≤ a1 ∧ a1 ≤ 8) ∧ 160 < ZA 100 5 + a1 ∧ ZB 100 5 = ZA 100 5 ∧ ZB 102 = ZA 102 ∨ xB = ZA 100 5 + a1 ∧ (1 ≤ a1 ∧ a1 ≤ 8) ∧ ZA 100 5 + a1 ≤ 160 ∧ ZB 100 5 = ZA 100 5 + a1 ∧ WRB ZA ZB 102 (ZA 100 5) a1 (-1) a2) ∧ True) (hkA : kp ([7, 2006]) Z ZA) (hkB : kp ([102, 6100]) ZA ZB) (hI : CI Z) (h_tx : RC_tx Z)  : xA = xB ∧ RC_tx ZB := by
  have fm := kp_cls hkA (by rfl)
  have fc := kp_mod hkB (by rfl)
  have m5 := congrFun (fm 100 (by decide) (by decide)) 5
  have c61 := congrFun (fc 6 (by decide)) 1
  have m102 := fm 102 (by decide) (by decide)
  have c7 := fc 7 (by decide)
  have hr := hI 100 5 0 160 rfl
  unfold RC_tx at *
  obtain ⟨hl, hb⟩ := h_tx
  rcases pA.1 with ⟨a, b, d, e⟩ | ⟨a, b, b2, d, e⟩ | ⟨a, b, b2, d, e1, e2⟩ <;> rcases pB.1 with ⟨a', b', d', e'⟩ | ⟨a', b', b2', d', e'⟩ | ⟨a', b', b2', d', e1', e2'⟩
  · refine ⟨by omega, by omega, fun k hk => ?_⟩
    rw [c7, e, e', m102]
    exact hb k (by omega)
  · exact absurd b' b
  · exact absurd b' b
  · exact absurd b b'
  · refine ⟨by omega, by omega, fun k hk => ?_⟩
    rw [c7, e, e', m102]
    exact hb k (by omega)
  · omega
  · exact absurd b b'
  · omega
  · refine ⟨by omega, by omega, fun k hk => ?_⟩
    rw [c7]
    by_cases hq : (k : Int) < Z 6 1
    · rw [e1 k hq, e1' k (by omega), m102]
      exact hb k hq
    · have q1 := e2 (k - (Z 6 1).toNat) (by omega)
      have q2 := e2' (k - (Z 6 1).toNat) (by omega)
      rw [show (Z 6 1).toNat + (k - (Z 6 1).toNat) = k by omega] at q1
      rw [show (ZA 100 5).toNat + (k - (Z 6 1).toNat) = k by omega] at q2
      rw [q1, q2]
      have r := byV_m (v := a2) (i := a1 - 1 - ((k - (Z 6 1).toNat : Nat) : Int)) (by omega) (by omega)
      exact ⟨rfl, r.2⟩
theorem cu_wipe_tx {Z ZA ZB : ZT} { xA xB : Int} (pA : (xA = Z 6 1) ∧ (ZA 6 1 = 0) ∧ True) (pB : (xB = ZA 100 5) ∧ (ZB 100 5 = 0) ∧ True) (hkA : kp ([2006]) Z ZA) (hkB : kp ([6100]) ZA ZB) (hI : CI Z) (h_tx : RC_tx Z)  : xA = xB ∧ RC_tx ZB := by
  have fm := kp_cls hkA (by rfl)
  have fc := kp_mod hkB (by rfl)
  have m := congrFun (fm 100 (by decide) (by decide)) 5
  have c := congrFun (fc 6 (by decide)) 1
  obtain ⟨p1, p2, -⟩ := pA
  obtain ⟨q1, q2, -⟩ := pB
  unfold RC_tx at *
  obtain ⟨hl, hb⟩ := h_tx
  exact ⟨by omega, by omega, fun k hk => by exfalso; omega⟩
theorem cu_fault {Z ZA ZB : ZT} { xA xB : Int} (pA : (∃ m : Nat, RDR (bC Z) (Z 6 1) m xA ∧ (xA = -4 → RDL (bC Z) ZA m)) ∧ True) (pB : (E1 ZB) ∧ (∃ m : Nat, RDR (mB ZA) (ZA 100 5) m xB ∧ (xB = -4 → RDM (mB ZA) ZB m)) ∧ (LOW ZA ZB) ∧ True) (hkA : kp ([4006, 5006, 6006, 8, 9, 10, 11, 12, 13, 14, 15, 16, 17]) Z ZA) (hkB : kp ([33100, 34100, 35100, 9100, 103, 104, 105, 106, 107, 108, 109, 110, 111]) ZA ZB) (hI : CI Z) (h_tx : RC_tx Z)  : xA = xB := by
  have fm := kp_cls hkA (by rfl)
  have fc := kp_mod hkB (by rfl)
  have e := tx_b h_tx (fm 102 (by decide) (by decide)) (congrFun (fm 100 (by decide) (by decide)) 5)
  have m5 := congrFun (fm 100 (by decide) (by decide)) 5
  obtain ⟨m, h1, -⟩ := pA.1
  obtain ⟨m', h2, -⟩ := pB.2.1
  rw [e, m5, ← h_tx.1] at h2
  exact (RDR_u h1 h2).2
theorem cu_fault_pn {Z ZA ZB : ZT} { xA xB : Int} (pA : (∃ m : Nat, RDR (bC Z) (Z 6 1) m xA ∧ (xA = -4 → RDL (bC Z) ZA m)) ∧ True) (pB : (E1 ZB) ∧ (∃ m : Nat, RDR (mB ZA) (ZA 100 5) m xB ∧ (xB = -4 → RDM (mB ZA) ZB m)) ∧ (LOW ZA ZB) ∧ True) (hkA : kp ([4006, 5006, 6006, 8, 9, 10, 11, 12, 13, 14, 15, 16, 17]) Z ZA) (hkB : kp ([33100, 34100, 35100, 9100, 103, 104, 105, 106, 107, 108, 109, 110, 111]) ZA ZB) (hI : CI Z) (h_pn : RC_pn Z)  : RC_pn ZB := by
  have fm := kp_cls hkA (by rfl)
  have fc := kp_mod hkB (by rfl)
  have m7 : ZB 100 7 = ZA 100 7 := kpF 100 7 hkB (by rfl)
  unfold RC_pn at h_pn ⊢
  exact PN_fault h_pn (fun o h1 h2 => kp_out (lo := 19) (hi := 28) hkA (by rfl) (by decide) o h1 h2) fm fc m7 pB.2.2.1
theorem cu_plan_pn {Z ZA ZB : ZT} { xA xB : Int} (pA : (∃ (m : Nat) (x0 : Int) (Zr : ZT), RDR (bC Z) (Z 6 1) m x0 ∧ (x0 ≠ -4 ∧ xA = -2 ∧ (∀ o, 19 ≤ o → o ≤ 28 → ZA o = Z o) ∨ x0 = -4 ∧ xA = m ∧ RDL (bC Z) Zr m ∧ TKP ZA Zr 19 8)) ∧ True) (pB : (E1 ZB) ∧ (∃ (m : Nat) (x0 : Int), RDR (mB ZA) (ZA 100 5) m x0 ∧ (x0 ≠ -4 ∧ xB = -2 ∧ LOW ZA ZB ∧ ZB 100 7 = ZA 100 7 ∨ x0 = -4 ∧ xB = m ∧ PLI (mB ZA) (ZA 100 5) ZB 4 80)) ∧ True) (hkA : kp ([4006, 5006, 6006, 8, 9, 10, 11, 12, 13, 14, 15, 16, 17, 19, 20, 21, 22, 23, 24, 25, 26, 27, 28, 70, 72, 74, 76, 78]) Z ZA) (hkB : kp ([33100, 34100, 35100, 9100, 103, 104, 105, 106, 107, 108, 109, 110, 111, 8100]) ZA ZB) (hI : CI Z) (h_pn : RC_pn Z) (h_tx : RC_tx Z) (hIA : CI ZA) : xA = xB ∧ RC_pn ZB := by
  have fm := kp_cls hkA (by rfl)
  have fc := kp_mod hkB (by rfl)
  have e := tx_b h_tx (fm 102 (by decide) (by decide)) (congrFun (fm 100 (by decide) (by decide)) 5)
  have m5 := congrFun (fm 100 (by decide) (by decide)) 5
  have hu := (hIA 19 1 0 80 rfl).2
  obtain ⟨m, x0, Zr, h1, h1'⟩ := pA.1
  obtain ⟨m', x0', h2, h2'⟩ := pB.2.1
  rw [e, m5, ← h_tx.1] at h2 h2'
  have q := RDR_u h1 h2
  unfold RC_pn at h_pn ⊢
  rcases h1' with ⟨a1, a2, a3⟩ | ⟨a1, a2, a3, a4⟩ <;> rcases h2' with ⟨b1, b2, b3, b4⟩ | ⟨b1, b2, b3⟩
  · exact ⟨by omega, PN_fault h_pn a3 fm fc b4 b3⟩
  · exfalso
    omega
  · exfalso
    omega
  · subst a1
    exact ⟨by omega, PN_plan h1 a3 a4 hu b3 fc⟩
theorem cu_keep_pn {Z ZA ZB : ZT} { xA xB : Int} (pA : (xA = -3 ∧ Z 1 5 = 2 ∧ ZA 1 5 = 2 ∨ xA = Z 1 5 + 1 ∧ Z 1 5 ≤ 1 ∧ ZA 1 5 = Z 1 5 + 1) ∧ (Z 1 5 = 0 → SCP ZA Z 36 18 ∧ UNC ZA Z 53 69) ∧ (Z 1 5 = 1 → SCP ZA Z 53 18 ∧ UNC ZA Z 36 52) ∧ (Z 1 5 = 2 → UNC ZA Z 36 52 ∧ UNC ZA Z 53 69) ∧ True) (pB : (KB ZB) ∧ (E1 ZB) ∧ (KE ZB) ∧ (xB = -3 ∧ ZA 100 30 = 2 ∧ ZB 100 30 = 2 ∨ xB = ZA 100 30 + 1 ∧ ZA 100 30 ≤ 1 ∧ ZB 100 30 = ZA 100 30 + 1) ∧ (∀ o : Nat, o ≠ 121 → o ≠ 100 → ZB o = ZA o) ∧ (∀ q : Nat, q ≠ 30 → ZB 100 q = ZA 100 q) ∧ (ZA 100 30 = 2 → ZB 121 = ZA 121) ∧ (ZA 100 30 ≤ 1 → OS ZA ZB (ZA 100 30) ∧ AL (KWP ZA ZB (ZA 100 30)) (fun _ => True)) ∧ True) (hkA : kp ([1, 36, 37, 38, 39, 40, 41, 42, 43, 44, 45, 46, 47, 48, 49, 50, 51, 52, 53, 54, 55, 56, 57, 58, 59, 60, 61, 62, 63, 64, 65, 66, 67, 68, 69]) Z ZA) (hkB : kp ([8100, 3100, 20100, 101, 103, 104, 105, 106, 107, 108, 109, 110, 111, 112, 113, 114, 115, 116, 121, 31100]) ZA ZB) (hI : CI Z) (h_stG : RC_stG Z) (h_pn : RC_pn Z) (h_sp : RC_sp Z)  : xA = xB ∧ RC_stG ZB ∧ RC_pn ZB ∧ RC_sp ZB := by
  have fm := kp_cls hkA (by rfl)
  have fc := kp_mod hkB (by rfl)
  have c5 := congrFun (fc 1 (by decide)) 5
  have m30 := congrFun (fm 100 (by decide) (by decide)) 30
  obtain ⟨pa, p0, p1, p2, -⟩ := pA
  obtain ⟨-, -, -, pb, q1, q2, q3, q4, -⟩ := pB
  have hst : ZA 100 30 = Z 1 5 := by unfold RC_stG at h_stG; omega
  have h01 := hI 1 5 0 2 rfl
  have hn : RC_pn ZB := by
    unfold RC_pn at h_pn ⊢
    exact PNR_f (PNR_o (fun o h1 h2 => (fc o (by omega)).trans (kp_out (lo := 19) (hi := 28) hkA (by rfl) (by decide) o (by omega) (by omega))) h_pn) (KF_low ((q2 7 (by decide)).trans (congrFun (fm 100 (by decide) (by decide)) 7)) (LOW_o (fun o h1 h2 => (q1 o (by omega) (by omega)).trans (fm o (by omega) (by omega)))))
  have g : xA = xB ∧ ZB 1 5 = ZB 100 30 := by rcases pa with ⟨a, b, d⟩ | ⟨a, b, d⟩ <;> rcases pb with ⟨e, f, g⟩ | ⟨e, f, g⟩ <;> omega
  refine ⟨g.1, g.2, hn, ?_⟩
  unfold RC_pn at h_pn
  unfold RC_sp at h_sp ⊢
  have f1 := fm 121 (by decide) (by decide)
  have hcase : Z 1 5 = 2 ∧ ZB 1 5 = 2 ∨ Z 1 5 = 0 ∧ ZB 1 5 = 1 ∨ Z 1 5 = 1 ∧ ZB 1 5 = 2 := by
    rcases pa with ⟨a, b, d⟩ | ⟨a, b, d⟩ <;> omega
  rcases hcase with ⟨h5, h6⟩ | ⟨h5, h6⟩ | ⟨h5, h6⟩
  · have e121 := (q3 (by omega)).trans f1
    exact ⟨fun _ => SP_o (fun o h1 h2 => (fc o (by omega)).trans ((p2 h5).1 o (by omega) (by omega))) (fun i _ _ => by rw [e121]) (h_sp.1 (by omega)), fun _ => SP_o (fun o h1 h2 => (fc o (by omega)).trans ((p2 h5).2 o (by omega) (by omega))) (fun i _ _ => by rw [e121]) (h_sp.2 (by omega))⟩
  · have kw := (q4 (by omega)).2
    have z : ZA 100 30 = 0 := by omega
    rw [z] at kw
    exact ⟨fun _ => SP_new (by decide) (p0 h5).1.2.2.2.2.2.2.2.2 h_pn kw fm fc, fun h => by omega⟩
  · have kw := (q4 (by omega)).2
    have os := (q4 (by omega)).1
    have z : ZA 100 30 = 1 := by omega
    rw [z] at kw os
    exact ⟨fun _ => SP_o (fun o h1 h2 => (fc o (by omega)).trans ((p1 h5).2 o (by omega) (by omega))) (fun i i0 i1 => (os 0 (by decide) (by decide) (by decide) i i0 i1).trans (congrFun f1 _)) (h_sp.1 (by omega)), fun _ => SP_new (by decide) (p1 h5).1.2.2.2.2.2.2.2.2 h_pn kw fm fc⟩
theorem cu_back_pn {Z ZA ZB : ZT} { xA xB : Int} (pA : (ZA 2 0 = Z 2 0) ∧ (ZA 2 1 = Z 2 1) ∧ (ZA 2 2 = Z 2 2 ∨ ZA 2 2 = Z 2 0 * Z 2 1) ∧ (xA = -2 ∧ Z 1 5 = 0 ∧ ZA 1 5 = 0 ∨ xA = Z 1 5 - 1 ∧ 1 ≤ Z 1 5 ∧ ZA 1 5 = Z 1 5 - 1) ∧ (Z 1 5 = 1 → SCP ZA Z 18 36) ∧ (Z 1 5 = 2 → SCP ZA Z 18 53) ∧ (Z 1 5 = 0 → UNC ZA Z 18 34) ∧ True) (pB : (KB ZB) ∧ (E1 ZB) ∧ (KE ZB) ∧ (xB = -2 ∧ ZA 100 30 = 0 ∧ ZB 100 30 = 0 ∨ xB = ZA 100 30 - 1 ∧ 1 ≤ ZA 100 30 ∧ ZB 100 30 = ZA 100 30 - 1) ∧ (ZB 121 = ZA 121) ∧ (ZA 100 30 = 0 → ∀ o : Nat, ZB o = ZA o) ∧ (1 ≤ ZA 100 30 → AL (BWP ZA ZB (ZA 100 30 - 1)) (fun _ => True)) ∧ True) (hkA : kp ([1, 2, 3, 18, 19, 20, 21, 22, 23, 24, 25, 26, 27, 28, 29, 30, 31, 32, 33, 34, 70, 72, 74, 76, 78, 88, 91, 93]) Z ZA) (hkB : kp ([8100, 3100, 20100, 101, 103, 104, 105, 106, 107, 108, 109, 110, 111, 112, 113, 114, 115, 116, 121, 31100]) ZA ZB) (hI : CI Z) (h_stG : RC_stG Z) (h_pn : RC_pn Z) (h_sp : RC_sp Z)  : xA = xB ∧ RC_stG ZB ∧ RC_pn ZB ∧ RC_sp ZB := by
  have fm := kp_cls hkA (by rfl)
  have fc := kp_mod hkB (by rfl)
  have c5 := congrFun (fc 1 (by decide)) 5
  have m30 := congrFun (fm 100 (by decide) (by decide)) 30
  obtain ⟨-, -, -, pa, p1, p2, p0, -⟩ := pA
  obtain ⟨-, -, -, pb, q0, q1, q2, -⟩ := pB
  have hst : ZA 100 30 = Z 1 5 := by unfold RC_stG at h_stG; omega
  have h01 := hI 1 5 0 2 rfl
  have f1 := fm 121 (by decide) (by decide)
  have g : xA = xB ∧ ZB 1 5 = ZB 100 30 := by rcases pa with ⟨a, b, d⟩ | ⟨a, b, d⟩ <;> rcases pb with ⟨e, f, g⟩ | ⟨e, f, g⟩ <;> omega
  have hle : ZB 1 5 ≤ Z 1 5 := by rcases pa with ⟨a, b, d⟩ | ⟨a, b, d⟩ <;> omega
  refine ⟨g.1, g.2, ?_, (sp_less hle (fun o h1 h2 => (fc o (by omega)).trans (kp_out (lo := 36) (hi := 69) hkA (by rfl) (by decide) o h1 h2)) (q0.trans f1) h_sp)⟩
  unfold RC_pn at h_pn ⊢
  unfold RC_sp at h_sp
  have hcase : Z 1 5 = 0 ∨ Z 1 5 = 1 ∨ Z 1 5 = 2 := by omega
  rcases hcase with h5 | h5 | h5
  · have u := p0 h5
    have w := q1 (by omega)
    exact PNR_f (PNR_o (fun o h1 h2 => (fc o (by omega)).trans (u o (by omega) (by omega))) h_pn) (KF_low ((congrFun (w 100) 7).trans (congrFun (fm 100 (by decide) (by decide)) 7)) (LOW_o (fun o h1 h2 => (w o).trans (fm o (by omega) (by omega)))))
  · have bw := q2 (by omega)
    have z : ZA 100 30 - 1 = 0 := by omega
    rw [z] at bw
    exact SP_back (p1 h5).2.2.2.2.2.2.2.2 (h_sp.1 (by omega)) bw f1 fc
  · have bw := q2 (by omega)
    have z : ZA 100 30 - 1 = 1 := by omega
    rw [z] at bw
    exact SP_back (p2 h5).2.2.2.2.2.2.2.2 (h_sp.2 (by omega)) bw f1 fc
theorem cu_skyL_st {Z ZA ZB : ZT} { a1 a2 xA xB : Int} (pA : (xA = -1 ∧ ¬(2 ≤ a1 ∧ a1 ≤ 6 ∧ 2 ≤ a2 ∧ a2 ≤ 6) ∧ ZA 1 5 = Z 1 5 ∨ xA = a1 * a2 ∧ (2 ≤ a1 ∧ a1 ≤ 6 ∧ 2 ≤ a2 ∧ a2 ≤ 6) ∧ ZA 1 5 = 0) ∧ True) (pB : (xB = -1 ∧ ¬(2 ≤ a1 ∧ a1 ≤ 6 ∧ 2 ≤ a2 ∧ a2 ≤ 6) ∧ ZB 100 30 = ZA 100 30 ∨ xB = a1 * a2 ∧ (2 ≤ a1 ∧ a1 ≤ 6 ∧ 2 ≤ a2 ∧ a2 ≤ 6) ∧ ZB 100 30 = 0) ∧ True) (hkA : kp ([1, 2, 3, 18, 29, 70, 72, 74, 76, 78, 81, 82, 88, 89, 91, 93]) Z ZA) (hkB : kp ([112, 117, 120, 1100, 2100, 20100, 31100]) ZA ZB) (hI : CI Z) (h_stG : RC_stG Z) (h_sp : RC_sp Z)  : RC_stG ZB ∧ RC_sp ZB := by
  have fm := kp_cls hkA (by rfl)
  have fc := kp_mod hkB (by rfl)
  have c5 := congrFun (fc 1 (by decide)) 5
  have m30 := congrFun (fm 100 (by decide) (by decide)) 30
  have h01 := hI 1 5 0 2 rfl
  have g : ZB 1 5 = ZB 100 30 ∧ ZB 1 5 ≤ Z 1 5 := by
    unfold RC_stG at h_stG
    rcases pA.1 with ⟨a, b, d⟩ | ⟨a, b, d⟩ <;> rcases pB.1 with ⟨e, f, g⟩ | ⟨e, f, g⟩ <;> first | exact absurd f b | exact absurd b f | omega
  exact ⟨g.1, (sp_less g.2 (fun o h1 h2 => (fc o (by omega)).trans (kp_out (lo := 36) (hi := 69) hkA (by rfl) (by decide) o h1 h2)) ((kp_av (o := 121) hkB (by rfl) (by decide)).trans (fm 121 (by decide) (by decide))) h_sp)⟩
/-- what class and reference have alike between calls -/
def RLX (Z : ZT) : Prop := RC_stG Z ∧ RC_tx Z ∧ RC_pn Z ∧ RC_sp Z ∧ True
set_option maxRecDepth 100000 in
set_option maxHeartbeats 40000000 in
theorem lc_0 {L : Nat} {xs : Nat → Int} {G : GT} (hG : Clo MCL 130 (some (L, xs)) QL G) {i : Int} (hi : 0 ≤ i ∧ i + 7 ≤ (L : Int)) (hL : L ≤ 3584) {Z : ZT} (hZ : LI Z) (hR : RLX Z) (hE : ∀ Z1, LI Z1 → RLX Z1 → G 1299 [(0, vr 0), (1, vr 1), (2, vr 100), (3, vi i)] [] (130, Z1, R0)) : G 180 [(0, vr 0), (1, vr 1), (2, vr 100), (3, vi i)] [] (130, Z, R0) := by
  obtain ⟨h_stG, h_tx, h_pn, h_sp, -⟩ := hR
  have o_stG := h_stG
  have o_tx := h_tx
  have o_pn := h_pn
  have o_sp := h_sp
  have hCI := hZ.1
  have htx0 : 0 ≤ Z 6 1 ∧ Z 6 1 ≤ 160 := by (have q := hCI 100 5 0 160 rfl; have q2 := h_tx.1; omega)
  refine wp_run hG [1299] 200 _ _ _ _ ?_
  repeat' (first
    | with_reducible rfl
    | ((with_reducible show BYT (bC _)); exact tx_byC h_tx)
    | ((with_reducible show BYT (mB _)); exact tx_byM h_tx)
    | ((with_reducible show PWF _); exact PN_pwf h_pn)
    | refine And.intro ?_ ?_
    | (intro (r : Option PV) σ' hq
       first
       | (obtain ⟨rfl, rfl⟩ := hq)
       | (obtain ⟨rfl, x, rfl, hp⟩ := hq; (try replace hp : _ ∧ _ := hp); (try dsimp only at hp))
       | (obtain ⟨Z', x, rfl, rfl, hI2, hk2, hp⟩ := hq; (try replace hp : _ ∧ _ := hp); (try dsimp only at hp); (first | have hk3 := kp_of hk2 | have hk3 := hk2); (first | have hZ := LI_av hZ hI2 hk3 (by rfl) | have hZ := LI_sky hZ hI2 hk3 (by omega) (by rfl) | skip); (first | have h_stG := RC_stG_av hk3 (by rfl) h_stG | skip); (first | have h_tx := RC_tx_av hk3 (by rfl) h_tx | skip); (first | have h_pn := RC_pn_av hk3 (by rfl) h_pn | skip); (first | have h_sp := RC_sp_av hk3 (by rfl) h_sp | skip); (first | (have hk0 := hkA; clear hk0; have hkB := hk3; (try have hpB := hp); (obtain ⟨h_stG, h_sp⟩ := cu_skyL_st hpA hpB hkA hkB hCI o_stG o_sp; (try dsimp only at hx))) | (have hkA := hk3; (try have hpA := hp); skip)))
       | (obtain ⟨Z', x, rfl, rfl, hI2, hk2⟩ := hq; (first | have hk3 := kp_of hk2 | have hk3 := hk2); (first | have hZ := LI_av hZ hI2 hk3 (by rfl) | have hZ := LI_sky hZ hI2 hk3 (by omega) (by rfl) | skip); (first | have h_stG := RC_stG_av hk3 (by rfl) h_stG | skip); (first | have h_tx := RC_tx_av hk3 (by rfl) h_tx | skip); (first | have h_pn := RC_pn_av hk3 (by rfl) h_pn | skip); (first | have h_sp := RC_sp_av hk3 (by rfl) h_sp | skip); (first | (have hk0 := hkA; clear hk0; have hkB := hk3; (try have hpB := hp); (obtain ⟨h_stG, h_sp⟩ := cu_skyL_st hpA hpB hkA hkB hCI o_stG o_sp; (try dsimp only at hx))) | (have hkA := hk3; (try have hpA := hp); skip)))
       | (rcases hq with ⟨Z', rfl, rfl, hI2, hk2⟩ | ⟨Z', rfl, rfl, hI2, hk2⟩ <;> ((first | have hk3 := kp_of hk2 | have hk3 := hk2); (first | have hZ := LI_av hZ hI2 hk3 (by rfl) | have hZ := LI_sky hZ hI2 hk3 (by omega) (by rfl) | skip); (first | have h_stG := RC_stG_av hk3 (by rfl) h_stG | skip); (first | have h_tx := RC_tx_av hk3 (by rfl) h_tx | skip); (first | have h_pn := RC_pn_av hk3 (by rfl) h_pn | skip); (first | have h_sp := RC_sp_av hk3 (by rfl) h_sp | skip); (first | (have hk0 := hkA; clear hk0; have hkB := hk3; (try have hpB := hp); (obtain ⟨h_stG, h_sp⟩ := cu_skyL_st hpA hpB hkA hkB hCI o_stG o_sp; (try dsimp only at hx))) | (have hkA := hk3; (try have hpA := hp); skip))))
       | (obtain ⟨Z', rfl, rfl, hI2, hk2, hp⟩ := hq; (first | have hk3 := kp_of hk2 | have hk3 := hk2); (first | have hZ := LI_av hZ hI2 hk3 (by rfl) | have hZ := LI_sky hZ hI2 hk3 (by omega) (by rfl) | skip); (first | have h_stG := RC_stG_av hk3 (by rfl) h_stG | skip); (first | have h_tx := RC_tx_av hk3 (by rfl) h_tx | skip); (first | have h_pn := RC_pn_av hk3 (by rfl) h_pn | skip); (first | have h_sp := RC_sp_av hk3 (by rfl) h_sp | skip); (first | (have hk0 := hkA; clear hk0; have hkB := hk3; (try have hpB := hp); (obtain ⟨h_stG, h_sp⟩ := cu_skyL_st hpA hpB hkA hkB hCI o_stG o_sp; (try dsimp only at hx))) | (have hkA := hk3; (try have hpA := hp); skip)))
       | (obtain ⟨Z', rfl, rfl, hI2, hk2⟩ := hq; (first | have hk3 := kp_of hk2 | have hk3 := hk2); (first | have hZ := LI_av hZ hI2 hk3 (by rfl) | have hZ := LI_sky hZ hI2 hk3 (by omega) (by rfl) | skip); (first | have h_stG := RC_stG_av hk3 (by rfl) h_stG | skip); (first | have h_tx := RC_tx_av hk3 (by rfl) h_tx | skip); (first | have h_pn := RC_pn_av hk3 (by rfl) h_pn | skip); (first | have h_sp := RC_sp_av hk3 (by rfl) h_sp | skip); (first | (have hk0 := hkA; clear hk0; have hkB := hk3; (try have hpB := hp); (obtain ⟨h_stG, h_sp⟩ := cu_skyL_st hpA hpB hkA hkB hCI o_stG o_sp; (try dsimp only at hx))) | (have hkA := hk3; (try have hpA := hp); skip))))
    | (intro hc; (try simp only [cmp3_c] at hc); simp only [cmpI] at hc))
  all_goals first
    | with_reducible rfl
    | ((with_reducible show recvG _ _); rfl)
    | with_reducible exact trivial
    | ((with_reducible show BYT (bC _)); exact tx_byC h_tx)
    | ((with_reducible show BYT (mB _)); exact tx_byM h_tx)
    | ((with_reducible show PWF _); exact PN_pwf h_pn)
    | ((with_reducible show CI _); exact hZ.1)
    | ((with_reducible show E1 _); exact hZ.2.1)
    | ((with_reducible show EB _); exact hZ.2.2.1)
    | ((with_reducible show KB _); exact hZ.2.2.2.1)
    | ((with_reducible show KE _); exact hZ.2.2.2.2)
    | (refine hG.2 1299 _ [(0, vr 0), (1, vr 1), (2, vr 100), (3, vi i)] _ _ rfl ?_; exact hE _ hZ ⟨(by assumption), (by assumption), (by assumption), (by assumption), trivial⟩)
    | decide
    | (refine (sx hi hL (k := 0) (by decide) ?_).1; simp (disch := omega) only [w32_id]; omega)
    | (with_reducible refine (sx hi hL ?_ rfl).1; decide)
    | (with_reducible refine (sx hi hL ?_ rfl).2; decide)
    | omega
    | (dsimp only; omega)
    | (exfalso; omega)
    | rfl
    | skip

set_option maxRecDepth 100000 in
set_option maxHeartbeats 40000000 in
theorem lc_1 {L : Nat} {xs : Nat → Int} {G : GT} (hG : Clo MCL 130 (some (L, xs)) QL G) {i : Int} (hi : 0 ≤ i ∧ i + 7 ≤ (L : Int)) (hL : L ≤ 3584) {Z : ZT} (hZ : LI Z) (hR : RLX Z) (hE : ∀ Z1, LI Z1 → RLX Z1 → G 1299 [(0, vr 0), (1, vr 1), (2, vr 100), (3, vi i)] [] (130, Z1, R0)) : G 213 [(0, vr 0), (1, vr 1), (2, vr 100), (3, vi i)] [] (130, Z, R0) := by
  obtain ⟨h_stG, h_tx, h_pn, h_sp, -⟩ := hR
  have o_stG := h_stG
  have o_tx := h_tx
  have o_pn := h_pn
  have o_sp := h_sp
  have hCI := hZ.1
  have htx0 : 0 ≤ Z 6 1 ∧ Z 6 1 ≤ 160 := by (have q := hCI 100 5 0 160 rfl; have q2 := h_tx.1; omega)
  refine wp_run hG [1299] 200 _ _ _ _ ?_
  repeat' (first
    | with_reducible rfl
    | ((with_reducible show BYT (bC _)); exact tx_byC h_tx)
    | ((with_reducible show BYT (mB _)); exact tx_byM h_tx)
    | ((with_reducible show PWF _); exact PN_pwf h_pn)
    | refine And.intro ?_ ?_
    | (intro (r : Option PV) σ' hq
       first
       | (obtain ⟨rfl, rfl⟩ := hq)
       | (obtain ⟨rfl, x, rfl, hp⟩ := hq; (try replace hp : _ ∧ _ := hp); (try dsimp only at hp))
       | (obtain ⟨Z', x, rfl, rfl, hI2, hk2, hp⟩ := hq; (try replace hp : _ ∧ _ := hp); (try dsimp only at hp); (first | have hk3 := kp_of hk2 | have hk3 := hk2); (first | have hZ := LI_av hZ hI2 hk3 (by rfl) | skip); (first | have h_stG := RC_stG_av hk3 (by rfl) h_stG | skip); (first | have h_tx := RC_tx_av hk3 (by rfl) h_tx | skip); (first | have h_pn := RC_pn_av hk3 (by rfl) h_pn | skip); (first | have h_sp := RC_sp_av hk3 (by rfl) h_sp | skip))
       | (obtain ⟨Z', x, rfl, rfl, hI2, hk2⟩ := hq; (first | have hk3 := kp_of hk2 | have hk3 := hk2); (first | have hZ := LI_av hZ hI2 hk3 (by rfl) | skip); (first | have h_stG := RC_stG_av hk3 (by rfl) h_stG | skip); (first | have h_tx := RC_tx_av hk3 (by rfl) h_tx | skip); (first | have h_pn := RC_pn_av hk3 (by rfl) h_pn | skip); (first | have h_sp := RC_sp_av hk3 (by rfl) h_sp | skip))
       | (rcases hq with ⟨Z', rfl, rfl, hI2, hk2⟩ | ⟨Z', rfl, rfl, hI2, hk2⟩ <;> ((first | have hk3 := kp_of hk2 | have hk3 := hk2); (first | have hZ := LI_av hZ hI2 hk3 (by rfl) | skip); (first | have h_stG := RC_stG_av hk3 (by rfl) h_stG | skip); (first | have h_tx := RC_tx_av hk3 (by rfl) h_tx | skip); (first | have h_pn := RC_pn_av hk3 (by rfl) h_pn | skip); (first | have h_sp := RC_sp_av hk3 (by rfl) h_sp | skip)))
       | (obtain ⟨Z', rfl, rfl, hI2, hk2, hp⟩ := hq; (first | have hk3 := kp_of hk2 | have hk3 := hk2); (first | have hZ := LI_av hZ hI2 hk3 (by rfl) | skip); (first | have h_stG := RC_stG_av hk3 (by rfl) h_stG | skip); (first | have h_tx := RC_tx_av hk3 (by rfl) h_tx | skip); (first | have h_pn := RC_pn_av hk3 (by rfl) h_pn | skip); (first | have h_sp := RC_sp_av hk3 (by rfl) h_sp | skip))
       | (obtain ⟨Z', rfl, rfl, hI2, hk2⟩ := hq; (first | have hk3 := kp_of hk2 | have hk3 := hk2); (first | have hZ := LI_av hZ hI2 hk3 (by rfl) | skip); (first | have h_stG := RC_stG_av hk3 (by rfl) h_stG | skip); (first | have h_tx := RC_tx_av hk3 (by rfl) h_tx | skip); (first | have h_pn := RC_pn_av hk3 (by rfl) h_pn | skip); (first | have h_sp := RC_sp_av hk3 (by rfl) h_sp | skip)))
    | (intro hc; (try simp only [cmp3_c] at hc); simp only [cmpI] at hc))
  all_goals first
    | with_reducible rfl
    | ((with_reducible show recvG _ _); rfl)
    | with_reducible exact trivial
    | ((with_reducible show BYT (bC _)); exact tx_byC h_tx)
    | ((with_reducible show BYT (mB _)); exact tx_byM h_tx)
    | ((with_reducible show PWF _); exact PN_pwf h_pn)
    | ((with_reducible show CI _); exact hZ.1)
    | ((with_reducible show E1 _); exact hZ.2.1)
    | ((with_reducible show EB _); exact hZ.2.2.1)
    | ((with_reducible show KB _); exact hZ.2.2.2.1)
    | ((with_reducible show KE _); exact hZ.2.2.2.2)
    | (refine hG.2 1299 _ [(0, vr 0), (1, vr 1), (2, vr 100), (3, vi i)] _ _ rfl ?_; exact hE _ hZ ⟨(by assumption), (by assumption), (by assumption), (by assumption), trivial⟩)
    | decide
    | (refine (sx hi hL (k := 0) (by decide) ?_).1; simp (disch := omega) only [w32_id]; omega)
    | (with_reducible refine (sx hi hL ?_ rfl).1; decide)
    | (with_reducible refine (sx hi hL ?_ rfl).2; decide)
    | omega
    | (dsimp only; omega)
    | (exfalso; omega)
    | rfl
    | skip

set_option maxRecDepth 100000 in
set_option maxHeartbeats 40000000 in
theorem lc_2 {L : Nat} {xs : Nat → Int} {G : GT} (hG : Clo MCL 130 (some (L, xs)) QL G) {i : Int} (hi : 0 ≤ i ∧ i + 7 ≤ (L : Int)) (hL : L ≤ 3584) {Z : ZT} (hZ : LI Z) (hR : RLX Z) (hE : ∀ Z1, LI Z1 → RLX Z1 → G 1299 [(0, vr 0), (1, vr 1), (2, vr 100), (3, vi i)] [] (130, Z1, R0)) : G 246 [(0, vr 0), (1, vr 1), (2, vr 100), (3, vi i)] [] (130, Z, R0) := by
  obtain ⟨h_stG, h_tx, h_pn, h_sp, -⟩ := hR
  have o_stG := h_stG
  have o_tx := h_tx
  have o_pn := h_pn
  have o_sp := h_sp
  have hCI := hZ.1
  have htx0 : 0 ≤ Z 6 1 ∧ Z 6 1 ≤ 160 := by (have q := hCI 100 5 0 160 rfl; have q2 := h_tx.1; omega)
  refine wp_run hG [1299] 200 _ _ _ _ ?_
  repeat' (first
    | with_reducible rfl
    | ((with_reducible show BYT (bC _)); exact tx_byC h_tx)
    | ((with_reducible show BYT (mB _)); exact tx_byM h_tx)
    | ((with_reducible show PWF _); exact PN_pwf h_pn)
    | refine And.intro ?_ ?_
    | (intro (r : Option PV) σ' hq
       first
       | (obtain ⟨rfl, rfl⟩ := hq)
       | (obtain ⟨rfl, x, rfl, hp⟩ := hq; (try replace hp : _ ∧ _ := hp); (try dsimp only at hp))
       | (obtain ⟨Z', x, rfl, rfl, hI2, hk2, hp⟩ := hq; (try replace hp : _ ∧ _ := hp); (try dsimp only at hp); (first | have hk3 := kp_of hk2 | have hk3 := hk2); (first | have hZ := LI_av hZ hI2 hk3 (by rfl) | skip); (first | have h_stG := RC_stG_av hk3 (by rfl) h_stG | skip); (first | have h_tx := RC_tx_av hk3 (by rfl) h_tx | skip); (first | have h_pn := RC_pn_av hk3 (by rfl) h_pn | skip); (first | have h_sp := RC_sp_av hk3 (by rfl) h_sp | skip))
       | (obtain ⟨Z', x, rfl, rfl, hI2, hk2⟩ := hq; (first | have hk3 := kp_of hk2 | have hk3 := hk2); (first | have hZ := LI_av hZ hI2 hk3 (by rfl) | skip); (first | have h_stG := RC_stG_av hk3 (by rfl) h_stG | skip); (first | have h_tx := RC_tx_av hk3 (by rfl) h_tx | skip); (first | have h_pn := RC_pn_av hk3 (by rfl) h_pn | skip); (first | have h_sp := RC_sp_av hk3 (by rfl) h_sp | skip))
       | (rcases hq with ⟨Z', rfl, rfl, hI2, hk2⟩ | ⟨Z', rfl, rfl, hI2, hk2⟩ <;> ((first | have hk3 := kp_of hk2 | have hk3 := hk2); (first | have hZ := LI_av hZ hI2 hk3 (by rfl) | skip); (first | have h_stG := RC_stG_av hk3 (by rfl) h_stG | skip); (first | have h_tx := RC_tx_av hk3 (by rfl) h_tx | skip); (first | have h_pn := RC_pn_av hk3 (by rfl) h_pn | skip); (first | have h_sp := RC_sp_av hk3 (by rfl) h_sp | skip)))
       | (obtain ⟨Z', rfl, rfl, hI2, hk2, hp⟩ := hq; (first | have hk3 := kp_of hk2 | have hk3 := hk2); (first | have hZ := LI_av hZ hI2 hk3 (by rfl) | skip); (first | have h_stG := RC_stG_av hk3 (by rfl) h_stG | skip); (first | have h_tx := RC_tx_av hk3 (by rfl) h_tx | skip); (first | have h_pn := RC_pn_av hk3 (by rfl) h_pn | skip); (first | have h_sp := RC_sp_av hk3 (by rfl) h_sp | skip))
       | (obtain ⟨Z', rfl, rfl, hI2, hk2⟩ := hq; (first | have hk3 := kp_of hk2 | have hk3 := hk2); (first | have hZ := LI_av hZ hI2 hk3 (by rfl) | skip); (first | have h_stG := RC_stG_av hk3 (by rfl) h_stG | skip); (first | have h_tx := RC_tx_av hk3 (by rfl) h_tx | skip); (first | have h_pn := RC_pn_av hk3 (by rfl) h_pn | skip); (first | have h_sp := RC_sp_av hk3 (by rfl) h_sp | skip)))
    | (intro hc; (try simp only [cmp3_c] at hc); simp only [cmpI] at hc))
  all_goals first
    | with_reducible rfl
    | ((with_reducible show recvG _ _); rfl)
    | with_reducible exact trivial
    | ((with_reducible show BYT (bC _)); exact tx_byC h_tx)
    | ((with_reducible show BYT (mB _)); exact tx_byM h_tx)
    | ((with_reducible show PWF _); exact PN_pwf h_pn)
    | ((with_reducible show CI _); exact hZ.1)
    | ((with_reducible show E1 _); exact hZ.2.1)
    | ((with_reducible show EB _); exact hZ.2.2.1)
    | ((with_reducible show KB _); exact hZ.2.2.2.1)
    | ((with_reducible show KE _); exact hZ.2.2.2.2)
    | (refine hG.2 1299 _ [(0, vr 0), (1, vr 1), (2, vr 100), (3, vi i)] _ _ rfl ?_; exact hE _ hZ ⟨(by assumption), (by assumption), (by assumption), (by assumption), trivial⟩)
    | decide
    | (refine (sx hi hL (k := 0) (by decide) ?_).1; simp (disch := omega) only [w32_id]; omega)
    | (with_reducible refine (sx hi hL ?_ rfl).1; decide)
    | (with_reducible refine (sx hi hL ?_ rfl).2; decide)
    | omega
    | (dsimp only; omega)
    | (exfalso; omega)
    | rfl
    | skip

set_option maxRecDepth 100000 in
set_option maxHeartbeats 40000000 in
theorem lc_3 {L : Nat} {xs : Nat → Int} {G : GT} (hG : Clo MCL 130 (some (L, xs)) QL G) {i : Int} (hi : 0 ≤ i ∧ i + 7 ≤ (L : Int)) (hL : L ≤ 3584) {Z : ZT} (hZ : LI Z) (hR : RLX Z) (hE : ∀ Z1, LI Z1 → RLX Z1 → G 1299 [(0, vr 0), (1, vr 1), (2, vr 100), (3, vi i)] [] (130, Z1, R0)) : G 279 [(0, vr 0), (1, vr 1), (2, vr 100), (3, vi i)] [] (130, Z, R0) := by
  obtain ⟨h_stG, h_tx, h_pn, h_sp, -⟩ := hR
  have o_stG := h_stG
  have o_tx := h_tx
  have o_pn := h_pn
  have o_sp := h_sp
  have hCI := hZ.1
  have htx0 : 0 ≤ Z 6 1 ∧ Z 6 1 ≤ 160 := by (have q := hCI 100 5 0 160 rfl; have q2 := h_tx.1; omega)
  refine wp_run hG [1299] 200 _ _ _ _ ?_
  repeat' (first
    | with_reducible rfl
    | ((with_reducible show BYT (bC _)); exact tx_byC h_tx)
    | ((with_reducible show BYT (mB _)); exact tx_byM h_tx)
    | ((with_reducible show PWF _); exact PN_pwf h_pn)
    | refine And.intro ?_ ?_
    | (intro (r : Option PV) σ' hq
       first
       | (obtain ⟨rfl, rfl⟩ := hq)
       | (obtain ⟨rfl, x, rfl, hp⟩ := hq; (try replace hp : _ ∧ _ := hp); (try dsimp only at hp))
       | (obtain ⟨Z', x, rfl, rfl, hI2, hk2, hp⟩ := hq; (try replace hp : _ ∧ _ := hp); (try dsimp only at hp); (first | have hk3 := kp_of hk2 | have hk3 := hk2); (first | have hZ := LI_av hZ hI2 hk3 (by rfl) | skip); (first | have h_stG := RC_stG_av hk3 (by rfl) h_stG | skip); (first | have h_tx := RC_tx_av hk3 (by rfl) h_tx | skip); (first | have h_pn := RC_pn_av hk3 (by rfl) h_pn | skip); (first | have h_sp := RC_sp_av hk3 (by rfl) h_sp | skip); (first | (have hk0 := hkA; clear hk0; have hkB := hk3; (try have hpB := hp); (obtain ⟨hx, h_tx⟩ := cu_write_tx hpA hpB hkA hkB hCI o_tx; (try dsimp only at hx))) | (have hkA := hk3; (try have hpA := hp); skip)))
       | (obtain ⟨Z', x, rfl, rfl, hI2, hk2⟩ := hq; (first | have hk3 := kp_of hk2 | have hk3 := hk2); (first | have hZ := LI_av hZ hI2 hk3 (by rfl) | skip); (first | have h_stG := RC_stG_av hk3 (by rfl) h_stG | skip); (first | have h_tx := RC_tx_av hk3 (by rfl) h_tx | skip); (first | have h_pn := RC_pn_av hk3 (by rfl) h_pn | skip); (first | have h_sp := RC_sp_av hk3 (by rfl) h_sp | skip); (first | (have hk0 := hkA; clear hk0; have hkB := hk3; (try have hpB := hp); (obtain ⟨hx, h_tx⟩ := cu_write_tx hpA hpB hkA hkB hCI o_tx; (try dsimp only at hx))) | (have hkA := hk3; (try have hpA := hp); skip)))
       | (rcases hq with ⟨Z', rfl, rfl, hI2, hk2⟩ | ⟨Z', rfl, rfl, hI2, hk2⟩ <;> ((first | have hk3 := kp_of hk2 | have hk3 := hk2); (first | have hZ := LI_av hZ hI2 hk3 (by rfl) | skip); (first | have h_stG := RC_stG_av hk3 (by rfl) h_stG | skip); (first | have h_tx := RC_tx_av hk3 (by rfl) h_tx | skip); (first | have h_pn := RC_pn_av hk3 (by rfl) h_pn | skip); (first | have h_sp := RC_sp_av hk3 (by rfl) h_sp | skip); (first | (have hk0 := hkA; clear hk0; have hkB := hk3; (try have hpB := hp); (obtain ⟨hx, h_tx⟩ := cu_write_tx hpA hpB hkA hkB hCI o_tx; (try dsimp only at hx))) | (have hkA := hk3; (try have hpA := hp); skip))))
       | (obtain ⟨Z', rfl, rfl, hI2, hk2, hp⟩ := hq; (first | have hk3 := kp_of hk2 | have hk3 := hk2); (first | have hZ := LI_av hZ hI2 hk3 (by rfl) | skip); (first | have h_stG := RC_stG_av hk3 (by rfl) h_stG | skip); (first | have h_tx := RC_tx_av hk3 (by rfl) h_tx | skip); (first | have h_pn := RC_pn_av hk3 (by rfl) h_pn | skip); (first | have h_sp := RC_sp_av hk3 (by rfl) h_sp | skip); (first | (have hk0 := hkA; clear hk0; have hkB := hk3; (try have hpB := hp); (obtain ⟨hx, h_tx⟩ := cu_write_tx hpA hpB hkA hkB hCI o_tx; (try dsimp only at hx))) | (have hkA := hk3; (try have hpA := hp); skip)))
       | (obtain ⟨Z', rfl, rfl, hI2, hk2⟩ := hq; (first | have hk3 := kp_of hk2 | have hk3 := hk2); (first | have hZ := LI_av hZ hI2 hk3 (by rfl) | skip); (first | have h_stG := RC_stG_av hk3 (by rfl) h_stG | skip); (first | have h_tx := RC_tx_av hk3 (by rfl) h_tx | skip); (first | have h_pn := RC_pn_av hk3 (by rfl) h_pn | skip); (first | have h_sp := RC_sp_av hk3 (by rfl) h_sp | skip); (first | (have hk0 := hkA; clear hk0; have hkB := hk3; (try have hpB := hp); (obtain ⟨hx, h_tx⟩ := cu_write_tx hpA hpB hkA hkB hCI o_tx; (try dsimp only at hx))) | (have hkA := hk3; (try have hpA := hp); skip))))
    | (intro hc; (try simp only [cmp3_c] at hc); simp only [cmpI] at hc))
  all_goals first
    | with_reducible rfl
    | ((with_reducible show recvG _ _); rfl)
    | with_reducible exact trivial
    | ((with_reducible show BYT (bC _)); exact tx_byC h_tx)
    | ((with_reducible show BYT (mB _)); exact tx_byM h_tx)
    | ((with_reducible show PWF _); exact PN_pwf h_pn)
    | ((with_reducible show CI _); exact hZ.1)
    | ((with_reducible show E1 _); exact hZ.2.1)
    | ((with_reducible show EB _); exact hZ.2.2.1)
    | ((with_reducible show KB _); exact hZ.2.2.2.1)
    | ((with_reducible show KE _); exact hZ.2.2.2.2)
    | (refine hG.2 1299 _ [(0, vr 0), (1, vr 1), (2, vr 100), (3, vi i)] _ _ rfl ?_; exact hE _ hZ ⟨(by assumption), (by assumption), (by assumption), (by assumption), trivial⟩)
    | decide
    | (refine (sx hi hL (k := 0) (by decide) ?_).1; simp (disch := omega) only [w32_id]; omega)
    | (with_reducible refine (sx hi hL ?_ rfl).1; decide)
    | (with_reducible refine (sx hi hL ?_ rfl).2; decide)
    | omega
    | (dsimp only; omega)
    | (exfalso; omega)
    | rfl
    | skip

set_option maxRecDepth 100000 in
set_option maxHeartbeats 40000000 in
theorem lc_4 {L : Nat} {xs : Nat → Int} {G : GT} (hG : Clo MCL 130 (some (L, xs)) QL G) {i : Int} (hi : 0 ≤ i ∧ i + 7 ≤ (L : Int)) (hL : L ≤ 3584) {Z : ZT} (hZ : LI Z) (hR : RLX Z) (hE : ∀ Z1, LI Z1 → RLX Z1 → G 1299 [(0, vr 0), (1, vr 1), (2, vr 100), (3, vi i)] [] (130, Z1, R0)) : G 342 [(0, vr 0), (1, vr 1), (2, vr 100), (3, vi i)] [] (130, Z, R0) := by
  obtain ⟨h_stG, h_tx, h_pn, h_sp, -⟩ := hR
  have o_stG := h_stG
  have o_tx := h_tx
  have o_pn := h_pn
  have o_sp := h_sp
  have hCI := hZ.1
  have htx0 : 0 ≤ Z 6 1 ∧ Z 6 1 ≤ 160 := by (have q := hCI 100 5 0 160 rfl; have q2 := h_tx.1; omega)
  refine wp_run hG [1299] 200 _ _ _ _ ?_
  repeat' (first
    | with_reducible rfl
    | ((with_reducible show BYT (bC _)); exact tx_byC h_tx)
    | ((with_reducible show BYT (mB _)); exact tx_byM h_tx)
    | ((with_reducible show PWF _); exact PN_pwf h_pn)
    | refine And.intro ?_ ?_
    | (intro (r : Option PV) σ' hq
       first
       | (obtain ⟨rfl, rfl⟩ := hq)
       | (obtain ⟨rfl, x, rfl, hp⟩ := hq; (try replace hp : _ ∧ _ := hp); (try dsimp only at hp))
       | (obtain ⟨Z', x, rfl, rfl, hI2, hk2, hp⟩ := hq; (try replace hp : _ ∧ _ := hp); (try dsimp only at hp); (first | have hk3 := kp_of hk2 | have hk3 := hk2); (first | have hZ := LI_av hZ hI2 hk3 (by rfl) | skip); (first | have h_stG := RC_stG_av hk3 (by rfl) h_stG | skip); (first | have h_tx := RC_tx_av hk3 (by rfl) h_tx | skip); (first | have h_pn := RC_pn_av hk3 (by rfl) h_pn | skip); (first | have h_sp := RC_sp_av hk3 (by rfl) h_sp | skip); (first | (have hk0 := hkA; clear hk0; have hkB := hk3; (try have hpB := hp); (obtain ⟨hx, h_tx⟩ := cu_wipe_tx hpA hpB hkA hkB hCI o_tx; (try dsimp only at hx))) | (have hkA := hk3; (try have hpA := hp); skip)))
       | (obtain ⟨Z', x, rfl, rfl, hI2, hk2⟩ := hq; (first | have hk3 := kp_of hk2 | have hk3 := hk2); (first | have hZ := LI_av hZ hI2 hk3 (by rfl) | skip); (first | have h_stG := RC_stG_av hk3 (by rfl) h_stG | skip); (first | have h_tx := RC_tx_av hk3 (by rfl) h_tx | skip); (first | have h_pn := RC_pn_av hk3 (by rfl) h_pn | skip); (first | have h_sp := RC_sp_av hk3 (by rfl) h_sp | skip); (first | (have hk0 := hkA; clear hk0; have hkB := hk3; (try have hpB := hp); (obtain ⟨hx, h_tx⟩ := cu_wipe_tx hpA hpB hkA hkB hCI o_tx; (try dsimp only at hx))) | (have hkA := hk3; (try have hpA := hp); skip)))
       | (rcases hq with ⟨Z', rfl, rfl, hI2, hk2⟩ | ⟨Z', rfl, rfl, hI2, hk2⟩ <;> ((first | have hk3 := kp_of hk2 | have hk3 := hk2); (first | have hZ := LI_av hZ hI2 hk3 (by rfl) | skip); (first | have h_stG := RC_stG_av hk3 (by rfl) h_stG | skip); (first | have h_tx := RC_tx_av hk3 (by rfl) h_tx | skip); (first | have h_pn := RC_pn_av hk3 (by rfl) h_pn | skip); (first | have h_sp := RC_sp_av hk3 (by rfl) h_sp | skip); (first | (have hk0 := hkA; clear hk0; have hkB := hk3; (try have hpB := hp); (obtain ⟨hx, h_tx⟩ := cu_wipe_tx hpA hpB hkA hkB hCI o_tx; (try dsimp only at hx))) | (have hkA := hk3; (try have hpA := hp); skip))))
       | (obtain ⟨Z', rfl, rfl, hI2, hk2, hp⟩ := hq; (first | have hk3 := kp_of hk2 | have hk3 := hk2); (first | have hZ := LI_av hZ hI2 hk3 (by rfl) | skip); (first | have h_stG := RC_stG_av hk3 (by rfl) h_stG | skip); (first | have h_tx := RC_tx_av hk3 (by rfl) h_tx | skip); (first | have h_pn := RC_pn_av hk3 (by rfl) h_pn | skip); (first | have h_sp := RC_sp_av hk3 (by rfl) h_sp | skip); (first | (have hk0 := hkA; clear hk0; have hkB := hk3; (try have hpB := hp); (obtain ⟨hx, h_tx⟩ := cu_wipe_tx hpA hpB hkA hkB hCI o_tx; (try dsimp only at hx))) | (have hkA := hk3; (try have hpA := hp); skip)))
       | (obtain ⟨Z', rfl, rfl, hI2, hk2⟩ := hq; (first | have hk3 := kp_of hk2 | have hk3 := hk2); (first | have hZ := LI_av hZ hI2 hk3 (by rfl) | skip); (first | have h_stG := RC_stG_av hk3 (by rfl) h_stG | skip); (first | have h_tx := RC_tx_av hk3 (by rfl) h_tx | skip); (first | have h_pn := RC_pn_av hk3 (by rfl) h_pn | skip); (first | have h_sp := RC_sp_av hk3 (by rfl) h_sp | skip); (first | (have hk0 := hkA; clear hk0; have hkB := hk3; (try have hpB := hp); (obtain ⟨hx, h_tx⟩ := cu_wipe_tx hpA hpB hkA hkB hCI o_tx; (try dsimp only at hx))) | (have hkA := hk3; (try have hpA := hp); skip))))
    | (intro hc; (try simp only [cmp3_c] at hc); simp only [cmpI] at hc))
  all_goals first
    | with_reducible rfl
    | ((with_reducible show recvG _ _); rfl)
    | with_reducible exact trivial
    | ((with_reducible show BYT (bC _)); exact tx_byC h_tx)
    | ((with_reducible show BYT (mB _)); exact tx_byM h_tx)
    | ((with_reducible show PWF _); exact PN_pwf h_pn)
    | ((with_reducible show CI _); exact hZ.1)
    | ((with_reducible show E1 _); exact hZ.2.1)
    | ((with_reducible show EB _); exact hZ.2.2.1)
    | ((with_reducible show KB _); exact hZ.2.2.2.1)
    | ((with_reducible show KE _); exact hZ.2.2.2.2)
    | (refine hG.2 1299 _ [(0, vr 0), (1, vr 1), (2, vr 100), (3, vi i)] _ _ rfl ?_; exact hE _ hZ ⟨(by assumption), (by assumption), (by assumption), (by assumption), trivial⟩)
    | decide
    | (refine (sx hi hL (k := 0) (by decide) ?_).1; simp (disch := omega) only [w32_id]; omega)
    | (with_reducible refine (sx hi hL ?_ rfl).1; decide)
    | (with_reducible refine (sx hi hL ?_ rfl).2; decide)
    | omega
    | (dsimp only; omega)
    | (exfalso; omega)
    | rfl
    | skip

set_option maxRecDepth 100000 in
set_option maxHeartbeats 40000000 in
theorem lc_5 {L : Nat} {xs : Nat → Int} {G : GT} (hG : Clo MCL 130 (some (L, xs)) QL G) {i : Int} (hi : 0 ≤ i ∧ i + 7 ≤ (L : Int)) (hL : L ≤ 3584) {Z : ZT} (hZ : LI Z) (hR : RLX Z) (hE : ∀ Z1, LI Z1 → RLX Z1 → G 1299 [(0, vr 0), (1, vr 1), (2, vr 100), (3, vi i)] [] (130, Z1, R0)) : G 355 [(0, vr 0), (1, vr 1), (2, vr 100), (3, vi i)] [] (130, Z, R0) := by
  obtain ⟨h_stG, h_tx, h_pn, h_sp, -⟩ := hR
  have o_stG := h_stG
  have o_tx := h_tx
  have o_pn := h_pn
  have o_sp := h_sp
  have hCI := hZ.1
  have htx0 : 0 ≤ Z 6 1 ∧ Z 6 1 ≤ 160 := by (have q := hCI 100 5 0 160 rfl; have q2 := h_tx.1; omega)
  refine wp_run hG [1299] 200 _ _ _ _ ?_
  repeat' (first
    | with_reducible rfl
    | ((with_reducible show BYT (bC _)); exact tx_byC h_tx)
    | ((with_reducible show BYT (mB _)); exact tx_byM h_tx)
    | ((with_reducible show PWF _); exact PN_pwf h_pn)
    | refine And.intro ?_ ?_
    | (intro (r : Option PV) σ' hq
       first
       | (obtain ⟨rfl, rfl⟩ := hq)
       | (obtain ⟨rfl, x, rfl, hp⟩ := hq; (try replace hp : _ ∧ _ := hp); (try dsimp only at hp))
       | (obtain ⟨Z', x, rfl, rfl, hI2, hk2, hp⟩ := hq; (try replace hp : _ ∧ _ := hp); (try dsimp only at hp); (first | have hk3 := kp_of hk2 | have hk3 := hk2); (first | have hZ := LI_av hZ hI2 hk3 (by rfl) | have hZ := LI_e1 hZ hI2 hk3 hp.1 (by rfl) | skip); (first | have h_stG := RC_stG_av hk3 (by rfl) h_stG | skip); (first | have h_tx := RC_tx_av hk3 (by rfl) h_tx | skip); (first | have h_pn := RC_pn_av hk3 (by rfl) h_pn | skip); (first | have h_sp := RC_sp_av hk3 (by rfl) h_sp | skip); (first | (have hk0 := hkA; clear hk0; have hkB := hk3; (try have hpB := hp); (have hx := cu_fault hpA hpB hkA hkB hCI o_tx; (try dsimp only at hx); have h_pn := cu_fault_pn hpA hpB hkA hkB hCI o_pn)) | (have hkA := hk3; (try have hpA := hp); skip)))
       | (obtain ⟨Z', x, rfl, rfl, hI2, hk2⟩ := hq; (first | have hk3 := kp_of hk2 | have hk3 := hk2); (first | have hZ := LI_av hZ hI2 hk3 (by rfl) | have hZ := LI_e1 hZ hI2 hk3 hp.1 (by rfl) | skip); (first | have h_stG := RC_stG_av hk3 (by rfl) h_stG | skip); (first | have h_tx := RC_tx_av hk3 (by rfl) h_tx | skip); (first | have h_pn := RC_pn_av hk3 (by rfl) h_pn | skip); (first | have h_sp := RC_sp_av hk3 (by rfl) h_sp | skip); (first | (have hk0 := hkA; clear hk0; have hkB := hk3; (try have hpB := hp); (have hx := cu_fault hpA hpB hkA hkB hCI o_tx; (try dsimp only at hx); have h_pn := cu_fault_pn hpA hpB hkA hkB hCI o_pn)) | (have hkA := hk3; (try have hpA := hp); skip)))
       | (rcases hq with ⟨Z', rfl, rfl, hI2, hk2⟩ | ⟨Z', rfl, rfl, hI2, hk2⟩ <;> ((first | have hk3 := kp_of hk2 | have hk3 := hk2); (first | have hZ := LI_av hZ hI2 hk3 (by rfl) | have hZ := LI_e1 hZ hI2 hk3 hp.1 (by rfl) | skip); (first | have h_stG := RC_stG_av hk3 (by rfl) h_stG | skip); (first | have h_tx := RC_tx_av hk3 (by rfl) h_tx | skip); (first | have h_pn := RC_pn_av hk3 (by rfl) h_pn | skip); (first | have h_sp := RC_sp_av hk3 (by rfl) h_sp | skip); (first | (have hk0 := hkA; clear hk0; have hkB := hk3; (try have hpB := hp); (have hx := cu_fault hpA hpB hkA hkB hCI o_tx; (try dsimp only at hx); have h_pn := cu_fault_pn hpA hpB hkA hkB hCI o_pn)) | (have hkA := hk3; (try have hpA := hp); skip))))
       | (obtain ⟨Z', rfl, rfl, hI2, hk2, hp⟩ := hq; (first | have hk3 := kp_of hk2 | have hk3 := hk2); (first | have hZ := LI_av hZ hI2 hk3 (by rfl) | have hZ := LI_e1 hZ hI2 hk3 hp.1 (by rfl) | skip); (first | have h_stG := RC_stG_av hk3 (by rfl) h_stG | skip); (first | have h_tx := RC_tx_av hk3 (by rfl) h_tx | skip); (first | have h_pn := RC_pn_av hk3 (by rfl) h_pn | skip); (first | have h_sp := RC_sp_av hk3 (by rfl) h_sp | skip); (first | (have hk0 := hkA; clear hk0; have hkB := hk3; (try have hpB := hp); (have hx := cu_fault hpA hpB hkA hkB hCI o_tx; (try dsimp only at hx); have h_pn := cu_fault_pn hpA hpB hkA hkB hCI o_pn)) | (have hkA := hk3; (try have hpA := hp); skip)))
       | (obtain ⟨Z', rfl, rfl, hI2, hk2⟩ := hq; (first | have hk3 := kp_of hk2 | have hk3 := hk2); (first | have hZ := LI_av hZ hI2 hk3 (by rfl) | have hZ := LI_e1 hZ hI2 hk3 hp.1 (by rfl) | skip); (first | have h_stG := RC_stG_av hk3 (by rfl) h_stG | skip); (first | have h_tx := RC_tx_av hk3 (by rfl) h_tx | skip); (first | have h_pn := RC_pn_av hk3 (by rfl) h_pn | skip); (first | have h_sp := RC_sp_av hk3 (by rfl) h_sp | skip); (first | (have hk0 := hkA; clear hk0; have hkB := hk3; (try have hpB := hp); (have hx := cu_fault hpA hpB hkA hkB hCI o_tx; (try dsimp only at hx); have h_pn := cu_fault_pn hpA hpB hkA hkB hCI o_pn)) | (have hkA := hk3; (try have hpA := hp); skip))))
    | (intro hc; (try simp only [cmp3_c] at hc); simp only [cmpI] at hc))
  all_goals first
    | with_reducible rfl
    | ((with_reducible show recvG _ _); rfl)
    | with_reducible exact trivial
    | ((with_reducible show BYT (bC _)); exact tx_byC h_tx)
    | ((with_reducible show BYT (mB _)); exact tx_byM h_tx)
    | ((with_reducible show PWF _); exact PN_pwf h_pn)
    | ((with_reducible show CI _); exact hZ.1)
    | ((with_reducible show E1 _); exact hZ.2.1)
    | ((with_reducible show EB _); exact hZ.2.2.1)
    | ((with_reducible show KB _); exact hZ.2.2.2.1)
    | ((with_reducible show KE _); exact hZ.2.2.2.2)
    | (refine hG.2 1299 _ [(0, vr 0), (1, vr 1), (2, vr 100), (3, vi i)] _ _ rfl ?_; exact hE _ hZ ⟨(by assumption), (by assumption), (by assumption), (by assumption), trivial⟩)
    | decide
    | (refine (sx hi hL (k := 0) (by decide) ?_).1; simp (disch := omega) only [w32_id]; omega)
    | (with_reducible refine (sx hi hL ?_ rfl).1; decide)
    | (with_reducible refine (sx hi hL ?_ rfl).2; decide)
    | omega
    | (dsimp only; omega)
    | (exfalso; omega)
    | rfl
    | skip

set_option maxRecDepth 100000 in
set_option maxHeartbeats 40000000 in
theorem lc_6 {L : Nat} {xs : Nat → Int} {G : GT} (hG : Clo MCL 130 (some (L, xs)) QL G) {i : Int} (hi : 0 ≤ i ∧ i + 7 ≤ (L : Int)) (hL : L ≤ 3584) {Z : ZT} (hZ : LI Z) (hR : RLX Z) (hE : ∀ Z1, LI Z1 → RLX Z1 → G 1299 [(0, vr 0), (1, vr 1), (2, vr 100), (3, vi i)] [] (130, Z1, R0)) : G 368 [(0, vr 0), (1, vr 1), (2, vr 100), (3, vi i)] [] (130, Z, R0) := by
  obtain ⟨h_stG, h_tx, h_pn, h_sp, -⟩ := hR
  have o_stG := h_stG
  have o_tx := h_tx
  have o_pn := h_pn
  have o_sp := h_sp
  have hCI := hZ.1
  have htx0 : 0 ≤ Z 6 1 ∧ Z 6 1 ≤ 160 := by (have q := hCI 100 5 0 160 rfl; have q2 := h_tx.1; omega)
  refine wp_run hG [1299] 200 _ _ _ _ ?_
  repeat' (first
    | with_reducible rfl
    | ((with_reducible show BYT (bC _)); exact tx_byC h_tx)
    | ((with_reducible show BYT (mB _)); exact tx_byM h_tx)
    | ((with_reducible show PWF _); exact PN_pwf h_pn)
    | refine And.intro ?_ ?_
    | (intro (r : Option PV) σ' hq
       first
       | (obtain ⟨rfl, rfl⟩ := hq)
       | (obtain ⟨rfl, x, rfl, hp⟩ := hq; (try replace hp : _ ∧ _ := hp); (try dsimp only at hp))
       | (obtain ⟨Z', x, rfl, rfl, hI2, hk2, hp⟩ := hq; (try replace hp : _ ∧ _ := hp); (try dsimp only at hp); (first | have hk3 := kp_of hk2 | have hk3 := hk2); (first | have hZ := LI_av hZ hI2 hk3 (by rfl) | have hZ := LI_e1 hZ hI2 hk3 hp.1 (by rfl) | skip); (first | have h_stG := RC_stG_av hk3 (by rfl) h_stG | skip); (first | have h_tx := RC_tx_av hk3 (by rfl) h_tx | skip); (first | have h_pn := RC_pn_av hk3 (by rfl) h_pn | skip); (first | have h_sp := RC_sp_av hk3 (by rfl) h_sp | skip); (first | (have hk0 := hkA; clear hk0; have hkB := hk3; (try have hpB := hp); (have hx := cu_plan_pn hpA hpB hkA hkB hCI o_pn o_tx hIA; have h_pn := hx.2; have hx := hx.1; (try dsimp only at hx))) | (have hkA := hk3; (try have hpA := hp); (have hIA := hI2))))
       | (obtain ⟨Z', x, rfl, rfl, hI2, hk2⟩ := hq; (first | have hk3 := kp_of hk2 | have hk3 := hk2); (first | have hZ := LI_av hZ hI2 hk3 (by rfl) | have hZ := LI_e1 hZ hI2 hk3 hp.1 (by rfl) | skip); (first | have h_stG := RC_stG_av hk3 (by rfl) h_stG | skip); (first | have h_tx := RC_tx_av hk3 (by rfl) h_tx | skip); (first | have h_pn := RC_pn_av hk3 (by rfl) h_pn | skip); (first | have h_sp := RC_sp_av hk3 (by rfl) h_sp | skip); (first | (have hk0 := hkA; clear hk0; have hkB := hk3; (try have hpB := hp); (have hx := cu_plan_pn hpA hpB hkA hkB hCI o_pn o_tx hIA; have h_pn := hx.2; have hx := hx.1; (try dsimp only at hx))) | (have hkA := hk3; (try have hpA := hp); (have hIA := hI2))))
       | (rcases hq with ⟨Z', rfl, rfl, hI2, hk2⟩ | ⟨Z', rfl, rfl, hI2, hk2⟩ <;> ((first | have hk3 := kp_of hk2 | have hk3 := hk2); (first | have hZ := LI_av hZ hI2 hk3 (by rfl) | have hZ := LI_e1 hZ hI2 hk3 hp.1 (by rfl) | skip); (first | have h_stG := RC_stG_av hk3 (by rfl) h_stG | skip); (first | have h_tx := RC_tx_av hk3 (by rfl) h_tx | skip); (first | have h_pn := RC_pn_av hk3 (by rfl) h_pn | skip); (first | have h_sp := RC_sp_av hk3 (by rfl) h_sp | skip); (first | (have hk0 := hkA; clear hk0; have hkB := hk3; (try have hpB := hp); (have hx := cu_plan_pn hpA hpB hkA hkB hCI o_pn o_tx hIA; have h_pn := hx.2; have hx := hx.1; (try dsimp only at hx))) | (have hkA := hk3; (try have hpA := hp); (have hIA := hI2)))))
       | (obtain ⟨Z', rfl, rfl, hI2, hk2, hp⟩ := hq; (first | have hk3 := kp_of hk2 | have hk3 := hk2); (first | have hZ := LI_av hZ hI2 hk3 (by rfl) | have hZ := LI_e1 hZ hI2 hk3 hp.1 (by rfl) | skip); (first | have h_stG := RC_stG_av hk3 (by rfl) h_stG | skip); (first | have h_tx := RC_tx_av hk3 (by rfl) h_tx | skip); (first | have h_pn := RC_pn_av hk3 (by rfl) h_pn | skip); (first | have h_sp := RC_sp_av hk3 (by rfl) h_sp | skip); (first | (have hk0 := hkA; clear hk0; have hkB := hk3; (try have hpB := hp); (have hx := cu_plan_pn hpA hpB hkA hkB hCI o_pn o_tx hIA; have h_pn := hx.2; have hx := hx.1; (try dsimp only at hx))) | (have hkA := hk3; (try have hpA := hp); (have hIA := hI2))))
       | (obtain ⟨Z', rfl, rfl, hI2, hk2⟩ := hq; (first | have hk3 := kp_of hk2 | have hk3 := hk2); (first | have hZ := LI_av hZ hI2 hk3 (by rfl) | have hZ := LI_e1 hZ hI2 hk3 hp.1 (by rfl) | skip); (first | have h_stG := RC_stG_av hk3 (by rfl) h_stG | skip); (first | have h_tx := RC_tx_av hk3 (by rfl) h_tx | skip); (first | have h_pn := RC_pn_av hk3 (by rfl) h_pn | skip); (first | have h_sp := RC_sp_av hk3 (by rfl) h_sp | skip); (first | (have hk0 := hkA; clear hk0; have hkB := hk3; (try have hpB := hp); (have hx := cu_plan_pn hpA hpB hkA hkB hCI o_pn o_tx hIA; have h_pn := hx.2; have hx := hx.1; (try dsimp only at hx))) | (have hkA := hk3; (try have hpA := hp); (have hIA := hI2)))))
    | (intro hc; (try simp only [cmp3_c] at hc); simp only [cmpI] at hc))
  all_goals first
    | with_reducible rfl
    | ((with_reducible show recvG _ _); rfl)
    | with_reducible exact trivial
    | ((with_reducible show BYT (bC _)); exact tx_byC h_tx)
    | ((with_reducible show BYT (mB _)); exact tx_byM h_tx)
    | ((with_reducible show PWF _); exact PN_pwf h_pn)
    | ((with_reducible show CI _); exact hZ.1)
    | ((with_reducible show E1 _); exact hZ.2.1)
    | ((with_reducible show EB _); exact hZ.2.2.1)
    | ((with_reducible show KB _); exact hZ.2.2.2.1)
    | ((with_reducible show KE _); exact hZ.2.2.2.2)
    | (refine hG.2 1299 _ [(0, vr 0), (1, vr 1), (2, vr 100), (3, vi i)] _ _ rfl ?_; exact hE _ hZ ⟨(by assumption), (by assumption), (by assumption), (by assumption), trivial⟩)
    | decide
    | (refine (sx hi hL (k := 0) (by decide) ?_).1; simp (disch := omega) only [w32_id]; omega)
    | (with_reducible refine (sx hi hL ?_ rfl).1; decide)
    | (with_reducible refine (sx hi hL ?_ rfl).2; decide)
    | omega
    | (dsimp only; omega)
    | (exfalso; omega)
    | rfl
    | skip

set_option maxRecDepth 100000 in
set_option maxHeartbeats 40000000 in
theorem lc_7 {L : Nat} {xs : Nat → Int} {G : GT} (hG : Clo MCL 130 (some (L, xs)) QL G) {i : Int} (hi : 0 ≤ i ∧ i + 7 ≤ (L : Int)) (hL : L ≤ 3584) {Z : ZT} (hZ : LI Z) (hR : RLX Z) (hE : ∀ Z1, LI Z1 → RLX Z1 → G 1299 [(0, vr 0), (1, vr 1), (2, vr 100), (3, vi i)] [] (130, Z1, R0)) : G 381 [(0, vr 0), (1, vr 1), (2, vr 100), (3, vi i)] [] (130, Z, R0) := by
  obtain ⟨h_stG, h_tx, h_pn, h_sp, -⟩ := hR
  have o_stG := h_stG
  have o_tx := h_tx
  have o_pn := h_pn
  have o_sp := h_sp
  have hCI := hZ.1
  have htx0 : 0 ≤ Z 6 1 ∧ Z 6 1 ≤ 160 := by (have q := hCI 100 5 0 160 rfl; have q2 := h_tx.1; omega)
  refine wp_run hG [1299] 200 _ _ _ _ ?_
  repeat' (first
    | with_reducible rfl
    | ((with_reducible show BYT (bC _)); exact tx_byC h_tx)
    | ((with_reducible show BYT (mB _)); exact tx_byM h_tx)
    | ((with_reducible show PWF _); exact PN_pwf h_pn)
    | refine And.intro ?_ ?_
    | (intro (r : Option PV) σ' hq
       first
       | (obtain ⟨rfl, rfl⟩ := hq)
       | (obtain ⟨rfl, x, rfl, hp⟩ := hq; (try replace hp : _ ∧ _ := hp); (try dsimp only at hp))
       | (obtain ⟨Z', x, rfl, rfl, hI2, hk2, hp⟩ := hq; (try replace hp : _ ∧ _ := hp); (try dsimp only at hp); (first | have hk3 := kp_of hk2 | have hk3 := hk2); (first | have hZ := LI_av hZ hI2 hk3 (by rfl) | skip); (first | have h_stG := RC_stG_av hk3 (by rfl) h_stG | skip); (first | have h_tx := RC_tx_av hk3 (by rfl) h_tx | skip); (first | have h_pn := RC_pn_av hk3 (by rfl) h_pn | skip); (first | have h_sp := RC_sp_av hk3 (by rfl) h_sp | skip))
       | (obtain ⟨Z', x, rfl, rfl, hI2, hk2⟩ := hq; (first | have hk3 := kp_of hk2 | have hk3 := hk2); (first | have hZ := LI_av hZ hI2 hk3 (by rfl) | skip); (first | have h_stG := RC_stG_av hk3 (by rfl) h_stG | skip); (first | have h_tx := RC_tx_av hk3 (by rfl) h_tx | skip); (first | have h_pn := RC_pn_av hk3 (by rfl) h_pn | skip); (first | have h_sp := RC_sp_av hk3 (by rfl) h_sp | skip))
       | (rcases hq with ⟨Z', rfl, rfl, hI2, hk2⟩ | ⟨Z', rfl, rfl, hI2, hk2⟩ <;> ((first | have hk3 := kp_of hk2 | have hk3 := hk2); (first | have hZ := LI_av hZ hI2 hk3 (by rfl) | skip); (first | have h_stG := RC_stG_av hk3 (by rfl) h_stG | skip); (first | have h_tx := RC_tx_av hk3 (by rfl) h_tx | skip); (first | have h_pn := RC_pn_av hk3 (by rfl) h_pn | skip); (first | have h_sp := RC_sp_av hk3 (by rfl) h_sp | skip)))
       | (obtain ⟨Z', rfl, rfl, hI2, hk2, hp⟩ := hq; (first | have hk3 := kp_of hk2 | have hk3 := hk2); (first | have hZ := LI_av hZ hI2 hk3 (by rfl) | skip); (first | have h_stG := RC_stG_av hk3 (by rfl) h_stG | skip); (first | have h_tx := RC_tx_av hk3 (by rfl) h_tx | skip); (first | have h_pn := RC_pn_av hk3 (by rfl) h_pn | skip); (first | have h_sp := RC_sp_av hk3 (by rfl) h_sp | skip))
       | (obtain ⟨Z', rfl, rfl, hI2, hk2⟩ := hq; (first | have hk3 := kp_of hk2 | have hk3 := hk2); (first | have hZ := LI_av hZ hI2 hk3 (by rfl) | skip); (first | have h_stG := RC_stG_av hk3 (by rfl) h_stG | skip); (first | have h_tx := RC_tx_av hk3 (by rfl) h_tx | skip); (first | have h_pn := RC_pn_av hk3 (by rfl) h_pn | skip); (first | have h_sp := RC_sp_av hk3 (by rfl) h_sp | skip)))
    | (intro hc; (try simp only [cmp3_c] at hc); simp only [cmpI] at hc))
  all_goals first
    | with_reducible rfl
    | ((with_reducible show recvG _ _); rfl)
    | with_reducible exact trivial
    | ((with_reducible show BYT (bC _)); exact tx_byC h_tx)
    | ((with_reducible show BYT (mB _)); exact tx_byM h_tx)
    | ((with_reducible show PWF _); exact PN_pwf h_pn)
    | ((with_reducible show CI _); exact hZ.1)
    | ((with_reducible show E1 _); exact hZ.2.1)
    | ((with_reducible show EB _); exact hZ.2.2.1)
    | ((with_reducible show KB _); exact hZ.2.2.2.1)
    | ((with_reducible show KE _); exact hZ.2.2.2.2)
    | (refine hG.2 1299 _ [(0, vr 0), (1, vr 1), (2, vr 100), (3, vi i)] _ _ rfl ?_; exact hE _ hZ ⟨(by assumption), (by assumption), (by assumption), (by assumption), trivial⟩)
    | decide
    | (refine (sx hi hL (k := 0) (by decide) ?_).1; simp (disch := omega) only [w32_id]; omega)
    | (with_reducible refine (sx hi hL ?_ rfl).1; decide)
    | (with_reducible refine (sx hi hL ?_ rfl).2; decide)
    | omega
    | (dsimp only; omega)
    | (exfalso; omega)
    | rfl
    | skip

set_option maxRecDepth 100000 in
set_option maxHeartbeats 40000000 in
theorem lc_8 {L : Nat} {xs : Nat → Int} {G : GT} (hG : Clo MCL 130 (some (L, xs)) QL G) {i : Int} (hi : 0 ≤ i ∧ i + 7 ≤ (L : Int)) (hL : L ≤ 3584) {Z : ZT} (hZ : LI Z) (hR : RLX Z) (hE : ∀ Z1, LI Z1 → RLX Z1 → G 1299 [(0, vr 0), (1, vr 1), (2, vr 100), (3, vi i)] [] (130, Z1, R0)) : G 414 [(0, vr 0), (1, vr 1), (2, vr 100), (3, vi i)] [] (130, Z, R0) := by
  obtain ⟨h_stG, h_tx, h_pn, h_sp, -⟩ := hR
  have o_stG := h_stG
  have o_tx := h_tx
  have o_pn := h_pn
  have o_sp := h_sp
  have hCI := hZ.1
  have htx0 : 0 ≤ Z 6 1 ∧ Z 6 1 ≤ 160 := by (have q := hCI 100 5 0 160 rfl; have q2 := h_tx.1; omega)
  refine wp_run hG [1299] 200 _ _ _ _ ?_
  repeat' (first
    | with_reducible rfl
    | ((with_reducible show BYT (bC _)); exact tx_byC h_tx)
    | ((with_reducible show BYT (mB _)); exact tx_byM h_tx)
    | ((with_reducible show PWF _); exact PN_pwf h_pn)
    | refine And.intro ?_ ?_
    | (intro (r : Option PV) σ' hq
       first
       | (obtain ⟨rfl, rfl⟩ := hq)
       | (obtain ⟨rfl, x, rfl, hp⟩ := hq; (try replace hp : _ ∧ _ := hp); (try dsimp only at hp))
       | (obtain ⟨Z', x, rfl, rfl, hI2, hk2, hp⟩ := hq; (try replace hp : _ ∧ _ := hp); (try dsimp only at hp); (first | have hk3 := kp_of hk2 | have hk3 := hk2); (first | have hZ := LI_av hZ hI2 hk3 (by rfl) | skip); (first | have h_stG := RC_stG_av hk3 (by rfl) h_stG | skip); (first | have h_tx := RC_tx_av hk3 (by rfl) h_tx | skip); (first | have h_pn := RC_pn_av hk3 (by rfl) h_pn | skip); (first | have h_sp := RC_sp_av hk3 (by rfl) h_sp | skip))
       | (obtain ⟨Z', x, rfl, rfl, hI2, hk2⟩ := hq; (first | have hk3 := kp_of hk2 | have hk3 := hk2); (first | have hZ := LI_av hZ hI2 hk3 (by rfl) | skip); (first | have h_stG := RC_stG_av hk3 (by rfl) h_stG | skip); (first | have h_tx := RC_tx_av hk3 (by rfl) h_tx | skip); (first | have h_pn := RC_pn_av hk3 (by rfl) h_pn | skip); (first | have h_sp := RC_sp_av hk3 (by rfl) h_sp | skip))
       | (rcases hq with ⟨Z', rfl, rfl, hI2, hk2⟩ | ⟨Z', rfl, rfl, hI2, hk2⟩ <;> ((first | have hk3 := kp_of hk2 | have hk3 := hk2); (first | have hZ := LI_av hZ hI2 hk3 (by rfl) | skip); (first | have h_stG := RC_stG_av hk3 (by rfl) h_stG | skip); (first | have h_tx := RC_tx_av hk3 (by rfl) h_tx | skip); (first | have h_pn := RC_pn_av hk3 (by rfl) h_pn | skip); (first | have h_sp := RC_sp_av hk3 (by rfl) h_sp | skip)))
       | (obtain ⟨Z', rfl, rfl, hI2, hk2, hp⟩ := hq; (first | have hk3 := kp_of hk2 | have hk3 := hk2); (first | have hZ := LI_av hZ hI2 hk3 (by rfl) | skip); (first | have h_stG := RC_stG_av hk3 (by rfl) h_stG | skip); (first | have h_tx := RC_tx_av hk3 (by rfl) h_tx | skip); (first | have h_pn := RC_pn_av hk3 (by rfl) h_pn | skip); (first | have h_sp := RC_sp_av hk3 (by rfl) h_sp | skip))
       | (obtain ⟨Z', rfl, rfl, hI2, hk2⟩ := hq; (first | have hk3 := kp_of hk2 | have hk3 := hk2); (first | have hZ := LI_av hZ hI2 hk3 (by rfl) | skip); (first | have h_stG := RC_stG_av hk3 (by rfl) h_stG | skip); (first | have h_tx := RC_tx_av hk3 (by rfl) h_tx | skip); (first | have h_pn := RC_pn_av hk3 (by rfl) h_pn | skip); (first | have h_sp := RC_sp_av hk3 (by rfl) h_sp | skip)))
    | (intro hc; (try simp only [cmp3_c] at hc); simp only [cmpI] at hc))
  all_goals first
    | with_reducible rfl
    | ((with_reducible show recvG _ _); rfl)
    | with_reducible exact trivial
    | ((with_reducible show BYT (bC _)); exact tx_byC h_tx)
    | ((with_reducible show BYT (mB _)); exact tx_byM h_tx)
    | ((with_reducible show PWF _); exact PN_pwf h_pn)
    | ((with_reducible show CI _); exact hZ.1)
    | ((with_reducible show E1 _); exact hZ.2.1)
    | ((with_reducible show EB _); exact hZ.2.2.1)
    | ((with_reducible show KB _); exact hZ.2.2.2.1)
    | ((with_reducible show KE _); exact hZ.2.2.2.2)
    | (refine hG.2 1299 _ [(0, vr 0), (1, vr 1), (2, vr 100), (3, vi i)] _ _ rfl ?_; exact hE _ hZ ⟨(by assumption), (by assumption), (by assumption), (by assumption), trivial⟩)
    | decide
    | (refine (sx hi hL (k := 0) (by decide) ?_).1; simp (disch := omega) only [w32_id]; omega)
    | (with_reducible refine (sx hi hL ?_ rfl).1; decide)
    | (with_reducible refine (sx hi hL ?_ rfl).2; decide)
    | omega
    | (dsimp only; omega)
    | (exfalso; omega)
    | rfl
    | skip
