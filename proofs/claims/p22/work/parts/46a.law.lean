/-! ===== the law: its cases ===== -/
abbrev MCL : Mc := (tb_L, PL, clL, oiN, 1, 0)
def QL (r : Option PV) (_ : St) : Prop := r = some (vi 1)
def liS (S : List Nat) : Bool := avo S 104 && (avo S 107 && (avo S 128 && (avo S 121 && (!(S.elem 100) && !(S.elem 31100)))))
theorem LI_av {S : List Nat} {Z Z' : ZT} (h : LI Z) (hI : CI Z') (hk : kp S Z Z') (hS : liS S = true) : LI Z' := by
  unfold liS at hS
  simp only [Bool.and_eq_true] at hS
  obtain ⟨h1, h2, h3, h4, h5, h6⟩ := hS
  have e4 := kp_av hk h1 (by decide)
  have e7 := kp_av hk h2 (by decide)
  have e8 := kp_av hk h3 (by decide)
  have e1 := kp_av hk h4 (by decide)
  have e30 : Z' 100 30 = Z 100 30 := hk 100 30 (by decide) (by simpa using h5) (by simpa using h6)
  exact ⟨hI, E1_eq e4 e7 h.2.1, EB_o e8 h.2.2.1, KB_o e1 h.2.2.2.1, KE_c e1 h.2.2.2.2 (Int.le_of_eq e30)⟩
/-- all but what lies on the lines -/
theorem LI_e1 {S : List Nat} {Z Z' : ZT} (h : LI Z) (hI : CI Z') (hk : kp S Z Z') (hE : E1 Z') (hS : (avo S 128 && (avo S 121 && (!(S.elem 100) && !(S.elem 31100)))) = true) : LI Z' := by
  simp only [Bool.and_eq_true] at hS
  obtain ⟨h3, h4, h5, h6⟩ := hS
  have e8 := kp_av hk h3 (by decide)
  have e1 := kp_av hk h4 (by decide)
  have e30 : Z' 100 30 = Z 100 30 := hk 100 30 (by decide) (by simpa using h5) (by simpa using h6)
  exact ⟨hI, hE, EB_o e8 h.2.2.1, KB_o e1 h.2.2.2.1, KE_c e1 h.2.2.2.2 (Int.le_of_eq e30)⟩
/-- all but the minutes -/
theorem LI_eb {S : List Nat} {Z Z' : ZT} (h : LI Z) (hI : CI Z') (hk : kp S Z Z') (hE : EB Z') (hS : (avo S 104 && (avo S 107 && (avo S 121 && (!(S.elem 100) && !(S.elem 31100))))) = true) : LI Z' := by
  simp only [Bool.and_eq_true] at hS
  obtain ⟨h3, h2, h4, h5, h6⟩ := hS
  have e4 := kp_av hk h3 (by decide)
  have e7 := kp_av hk h2 (by decide)
  have e1 := kp_av hk h4 (by decide)
  have e30 : Z' 100 30 = Z 100 30 := hk 100 30 (by decide) (by simpa using h5) (by simpa using h6)
  exact ⟨hI, E1_eq e4 e7 h.2.1, hE, KB_o e1 h.2.2.2.1, KE_c e1 h.2.2.2.2 (Int.le_of_eq e30)⟩
/-- what is kept, brought back -/
theorem LI_k {S : List Nat} {Z Z' : ZT} (h : LI Z) (hI : CI Z') (hk : kp S Z Z') (hB : KB Z') (hE : E1 Z') (hK : KE Z') (hS : avo S 128 = true) : LI Z' := ⟨hI, hE, EB_o (kp_av hk hS (by decide)) h.2.2.1, hB, hK⟩
/-- what is kept is dropped, perhaps -/
theorem LI_sky {S : List Nat} {Z Z' : ZT} (h : LI Z) (hI : CI Z') (hk : kp S Z Z') (hq : Z' 100 30 = Z 100 30 ∨ Z' 100 30 = 0) (hS : (avo S 104 && (avo S 107 && (avo S 128 && avo S 121))) = true) : LI Z' := by
  simp only [Bool.and_eq_true] at hS
  obtain ⟨h1, h2, h3, h4⟩ := hS
  have e4 := kp_av hk h1 (by decide)
  have e7 := kp_av hk h2 (by decide)
  have e8 := kp_av hk h3 (by decide)
  have e1 := kp_av hk h4 (by decide)
  have q := h.1 100 30 0 2 rfl
  exact ⟨hI, E1_eq e4 e7 h.2.1, EB_o e8 h.2.2.1, KB_o e1 h.2.2.2.1, KE_c e1 h.2.2.2.2 (by omega)⟩
theorem sx {L : Nat} {i k x : Int} (h : 0 ≤ i ∧ i + 7 ≤ (L : Int)) (hL : L ≤ 3584) (hk : 0 ≤ k ∧ k ≤ 6) (hx : x = w32 (i + k)) : 0 ≤ x ∧ x < (L : Int) := by
  subst hx
  rw [w32_id (by omega) (by omega)]
  omega
/-- width and height -/
def RC_dm (Z : ZT) : Prop := (Z 2 0 = Z 100 0 ∧ Z 2 1 = Z 100 1) ∧ Z 2 2 = Z 2 0 * Z 2 1
theorem RC_dm_av {S : List Nat} {Z Z' : ZT} (hk : kp S Z Z') (hS : ((!(S.elem 2) && !(S.elem 1002)) && ((!(S.elem 2) && !(S.elem 2002)) && ((!(S.elem 2) && !(S.elem 3002)) && ((!(S.elem 100) && !(S.elem 1100)) && (!(S.elem 100) && !(S.elem 2100)))))) = true) (h : RC_dm Z) : RC_dm Z' := by
  simp only [Bool.and_eq_true, Bool.not_eq_true'] at hS
  obtain ⟨⟨f0, g0⟩, ⟨f1, g1⟩, ⟨f2, g2⟩, ⟨f3, g3⟩, ⟨f4, g4⟩⟩ := hS
  have d0 : Z' 2 0 = Z 2 0 := hk 2 0 (by decide) (by simpa using f0) (by simpa using g0)
  have d1 : Z' 2 1 = Z 2 1 := hk 2 1 (by decide) (by simpa using f1) (by simpa using g1)
  have d2 : Z' 2 2 = Z 2 2 := hk 2 2 (by decide) (by simpa using f2) (by simpa using g2)
  have d3 : Z' 100 0 = Z 100 0 := hk 100 0 (by decide) (by simpa using f3) (by simpa using g3)
  have d4 : Z' 100 1 = Z 100 1 := hk 100 1 (by decide) (by simpa using f4) (by simpa using g4)
  unfold RC_dm at h ⊢
  simp only [d0, d1, d2, d3, d4]
  exact h
/-- walk -/
def RC_wk (Z : ZT) : Prop := Z 86 1 = Z 100 3
theorem RC_wk_av {S : List Nat} {Z Z' : ZT} (hk : kp S Z Z') (hS : ((!(S.elem 86) && !(S.elem 2086)) && (!(S.elem 100) && !(S.elem 4100))) = true) (h : RC_wk Z) : RC_wk Z' := by
  simp only [Bool.and_eq_true, Bool.not_eq_true'] at hS
  obtain ⟨⟨f0, g0⟩, ⟨f1, g1⟩⟩ := hS
  have d0 : Z' 86 1 = Z 86 1 := hk 86 1 (by decide) (by simpa using f0) (by simpa using g0)
  have d1 : Z' 100 3 = Z 100 3 := hk 100 3 (by decide) (by simpa using f1) (by simpa using g1)
  unfold RC_wk at h ⊢
  simp only [d0, d1]
  exact h
/-- how many are kept -/
def RC_stG (Z : ZT) : Prop := Z 1 5 = Z 100 30
theorem RC_stG_av {S : List Nat} {Z Z' : ZT} (hk : kp S Z Z') (hS : ((!(S.elem 1) && !(S.elem 6001)) && (!(S.elem 100) && !(S.elem 31100))) = true) (h : RC_stG Z) : RC_stG Z' := by
  simp only [Bool.and_eq_true, Bool.not_eq_true'] at hS
  obtain ⟨⟨f0, g0⟩, ⟨f1, g1⟩⟩ := hS
  have d0 : Z' 1 5 = Z 1 5 := hk 1 5 (by decide) (by simpa using f0) (by simpa using g0)
  have d1 : Z' 100 30 = Z 100 30 := hk 100 30 (by decide) (by simpa using f1) (by simpa using g1)
  unfold RC_stG at h ⊢
  simp only [d0, d1]
  exact h
/-- edge, slips, rims, first numbers -/
def RC_sn (Z : ZT) : Prop := (Z 18 3 = Z 100 2 ∧ Z 18 4 = Z 100 19) ∧ (∀ k : Nat, k < 4 → Z 30 k = Z 101 k) ∧ (∀ k : Nat, k < 144 → Z 29 k = Z 112 k) ∧ (∀ k : Nat, k < 12 → Z 31 k = Z 113 k) ∧ (∀ k : Nat, k < 12 → Z 32 k = Z 114 k) ∧ (∀ k : Nat, k < 12 → Z 33 k = Z 115 k) ∧ (∀ k : Nat, k < 12 → Z 34 k = Z 116 k)
theorem RC_sn_av {S : List Nat} {Z Z' : ZT} (hk : kp S Z Z') (hS : (avo S 30 && (avo S 101 && (avo S 29 && (avo S 112 && (avo S 31 && (avo S 113 && (avo S 32 && (avo S 114 && (avo S 33 && (avo S 115 && (avo S 34 && (avo S 116 && ((!(S.elem 18) && !(S.elem 4018)) && ((!(S.elem 18) && !(S.elem 5018)) && ((!(S.elem 100) && !(S.elem 3100)) && (!(S.elem 100) && !(S.elem 20100))))))))))))))))) = true) (h : RC_sn Z) : RC_sn Z' := by
  simp only [Bool.and_eq_true, Bool.not_eq_true'] at hS
  obtain ⟨h0, h1, h2, h3, h4, h5, h6, h7, h8, h9, h10, h11, ⟨f0, g0⟩, ⟨f1, g1⟩, ⟨f2, g2⟩, ⟨f3, g3⟩⟩ := hS
  have e0 : Z' 30 = Z 30 := kp_av hk h0 (by decide)
  have e1 : Z' 101 = Z 101 := kp_av hk h1 (by decide)
  have e2 : Z' 29 = Z 29 := kp_av hk h2 (by decide)
  have e3 : Z' 112 = Z 112 := kp_av hk h3 (by decide)
  have e4 : Z' 31 = Z 31 := kp_av hk h4 (by decide)
  have e5 : Z' 113 = Z 113 := kp_av hk h5 (by decide)
  have e6 : Z' 32 = Z 32 := kp_av hk h6 (by decide)
  have e7 : Z' 114 = Z 114 := kp_av hk h7 (by decide)
  have e8 : Z' 33 = Z 33 := kp_av hk h8 (by decide)
  have e9 : Z' 115 = Z 115 := kp_av hk h9 (by decide)
  have e10 : Z' 34 = Z 34 := kp_av hk h10 (by decide)
  have e11 : Z' 116 = Z 116 := kp_av hk h11 (by decide)
  have d0 : Z' 18 3 = Z 18 3 := hk 18 3 (by decide) (by simpa using f0) (by simpa using g0)
  have d1 : Z' 18 4 = Z 18 4 := hk 18 4 (by decide) (by simpa using f1) (by simpa using g1)
  have d2 : Z' 100 2 = Z 100 2 := hk 100 2 (by decide) (by simpa using f2) (by simpa using g2)
  have d3 : Z' 100 19 = Z 100 19 := hk 100 19 (by decide) (by simpa using f3) (by simpa using g3)
  unfold RC_sn at h ⊢
  simp only [e0, e1, e2, e3, e4, e5, e6, e7, e8, e9, e10, e11, d0, d1, d2, d3]
  exact h
/-- a kept setting, class's and model's -/
def SRK (Z : ZT) (s : Nat) (k : Int) : Prop := Z s 3 = Z 121 (700 * k + 1).toNat ∧ Z s 4 = Z 121 (700 * k + 2).toNat ∧ (∀ j : Nat, j < 4 → Z (s + 12) j = Z 121 (700 * k + (3 + (j : Int))).toNat) ∧ (∀ j : Nat, j < 144 → Z (s + 11) j = Z 121 (700 * k + (271 + (j : Int))).toNat) ∧ (∀ j : Nat, j < 12 → Z (s + 13) j = Z 121 (700 * k + (415 + (j : Int))).toNat) ∧ (∀ j : Nat, j < 12 → Z (s + 14) j = Z 121 (700 * k + (427 + (j : Int))).toNat) ∧ (∀ j : Nat, j < 12 → Z (s + 15) j = Z 121 (700 * k + (439 + (j : Int))).toNat) ∧ (∀ j : Nat, j < 12 → Z (s + 16) j = Z 121 (700 * k + (451 + (j : Int))).toNat)
/-- what is kept -/
def RC_sk (Z : ZT) : Prop := (1 ≤ Z 1 5 → SRK Z 36 0) ∧ (2 ≤ Z 1 5 → SRK Z 53 1)
theorem RC_sk_av {S : List Nat} {Z Z' : ZT} (hk : kp S Z Z') (hS : (avo S 36 && (avo S 47 && (avo S 48 && (avo S 49 && (avo S 50 && (avo S 51 && (avo S 52 && (avo S 53 && (avo S 64 && (avo S 65 && (avo S 66 && (avo S 67 && (avo S 68 && (avo S 69 && (avo S 121 && (!(S.elem 1) && !(S.elem 6001))))))))))))))))) = true) (h : RC_sk Z) : RC_sk Z' := by
  simp only [Bool.and_eq_true, Bool.not_eq_true'] at hS
  obtain ⟨h0, h1, h2, h3, h4, h5, h6, h7, h8, h9, h10, h11, h12, h13, h14, ⟨f0, g0⟩⟩ := hS
  have e0 : Z' 36 = Z 36 := kp_av hk h0 (by decide)
  have e1 : Z' 47 = Z 47 := kp_av hk h1 (by decide)
  have e2 : Z' 48 = Z 48 := kp_av hk h2 (by decide)
  have e3 : Z' 49 = Z 49 := kp_av hk h3 (by decide)
  have e4 : Z' 50 = Z 50 := kp_av hk h4 (by decide)
  have e5 : Z' 51 = Z 51 := kp_av hk h5 (by decide)
  have e6 : Z' 52 = Z 52 := kp_av hk h6 (by decide)
  have e7 : Z' 53 = Z 53 := kp_av hk h7 (by decide)
  have e8 : Z' 64 = Z 64 := kp_av hk h8 (by decide)
  have e9 : Z' 65 = Z 65 := kp_av hk h9 (by decide)
  have e10 : Z' 66 = Z 66 := kp_av hk h10 (by decide)
  have e11 : Z' 67 = Z 67 := kp_av hk h11 (by decide)
  have e12 : Z' 68 = Z 68 := kp_av hk h12 (by decide)
  have e13 : Z' 69 = Z 69 := kp_av hk h13 (by decide)
  have e14 : Z' 121 = Z 121 := kp_av hk h14 (by decide)
  have d0 : Z' 1 5 = Z 1 5 := hk 1 5 (by decide) (by simpa using f0) (by simpa using g0)
  unfold RC_sk SRK at h ⊢
  simp only [Nat.reduceAdd] at h ⊢
  simp only [e0, e1, e2, e3, e4, e5, e6, e7, e8, e9, e10, e11, e12, e13, e14, d0]
  exact h
/-- the text's bytes -/
def RC_tx (Z : ZT) : Prop := Z 6 1 = Z 100 5 ∧ ∀ k : Nat, (k : Int) < Z 6 1 → Z 7 k = Z 102 k ∧ 0 ≤ Z 7 k ∧ Z 7 k ≤ 255
theorem RC_tx_av {S : List Nat} {Z Z' : ZT} (hk : kp S Z Z') (hS : (avo S 7 && (avo S 102 && ((!(S.elem 6) && !(S.elem 2006)) && (!(S.elem 100) && !(S.elem 6100))))) = true) (h : RC_tx Z) : RC_tx Z' := by
  simp only [Bool.and_eq_true, Bool.not_eq_true'] at hS
  obtain ⟨h0, h1, ⟨f0, g0⟩, ⟨f1, g1⟩⟩ := hS
  have e0 : Z' 7 = Z 7 := kp_av hk h0 (by decide)
  have e1 : Z' 102 = Z 102 := kp_av hk h1 (by decide)
  have d0 : Z' 6 1 = Z 6 1 := hk 6 1 (by decide) (by simpa using f0) (by simpa using g0)
  have d1 : Z' 100 5 = Z 100 5 := hk 100 5 (by decide) (by simpa using f1) (by simpa using g1)
  unfold RC_tx at h ⊢
  simp only [e0, e1, d0, d1]
  exact h
/-- the plan -/
def RC_pn (Z : ZT) : Prop := PNR Z 19 (KF Z)
theorem RC_pn_av {S : List Nat} {Z Z' : ZT} (hk : kp S Z Z') (hS : (avo S 19 && (avo S 20 && (avo S 21 && (avo S 22 && (avo S 23 && (avo S 24 && (avo S 25 && (avo S 26 && (avo S 27 && (avo S 28 && (avo S 103 && (avo S 104 && (avo S 105 && (avo S 106 && (avo S 107 && (avo S 108 && (avo S 109 && (avo S 110 && (avo S 111 && (!(S.elem 100) && !(S.elem 8100))))))))))))))))))))) = true) (h : RC_pn Z) : RC_pn Z' := by
  simp only [Bool.and_eq_true, Bool.not_eq_true'] at hS
  obtain ⟨h0, h1, h2, h3, h4, h5, h6, h7, h8, h9, h10, h11, h12, h13, h14, h15, h16, h17, h18, ⟨f0, g0⟩⟩ := hS
  have e0 : Z' 19 = Z 19 := kp_av hk h0 (by decide)
  have e1 : Z' 20 = Z 20 := kp_av hk h1 (by decide)
  have e2 : Z' 21 = Z 21 := kp_av hk h2 (by decide)
  have e3 : Z' 22 = Z 22 := kp_av hk h3 (by decide)
  have e4 : Z' 23 = Z 23 := kp_av hk h4 (by decide)
  have e5 : Z' 24 = Z 24 := kp_av hk h5 (by decide)
  have e6 : Z' 25 = Z 25 := kp_av hk h6 (by decide)
  have e7 : Z' 26 = Z 26 := kp_av hk h7 (by decide)
  have e8 : Z' 27 = Z 27 := kp_av hk h8 (by decide)
  have e9 : Z' 28 = Z 28 := kp_av hk h9 (by decide)
  have e10 : Z' 103 = Z 103 := kp_av hk h10 (by decide)
  have e11 : Z' 104 = Z 104 := kp_av hk h11 (by decide)
  have e12 : Z' 105 = Z 105 := kp_av hk h12 (by decide)
  have e13 : Z' 106 = Z 106 := kp_av hk h13 (by decide)
  have e14 : Z' 107 = Z 107 := kp_av hk h14 (by decide)
  have e15 : Z' 108 = Z 108 := kp_av hk h15 (by decide)
  have e16 : Z' 109 = Z 109 := kp_av hk h16 (by decide)
  have e17 : Z' 110 = Z 110 := kp_av hk h17 (by decide)
  have e18 : Z' 111 = Z 111 := kp_av hk h18 (by decide)
  have d0 : Z' 100 7 = Z 100 7 := hk 100 7 (by decide) (by simpa using f0) (by simpa using g0)
  have ho : ∀ o, 19 ≤ o → o ≤ 28 → Z' o = Z o := fun o h1 h2 => by
    have hc : o = 19 ∨ o = 20 ∨ o = 21 ∨ o = 22 ∨ o = 23 ∨ o = 24 ∨ o = 25 ∨ o = 26 ∨ o = 27 ∨ o = 28 := by omega
    rcases hc with rfl | rfl | rfl | rfl | rfl | rfl | rfl | rfl | rfl | rfl <;> assumption
  have hm : ∀ o, 103 ≤ o → o ≤ 111 → Z' o = Z o := fun o h1 h2 => by
    have hc : o = 103 ∨ o = 104 ∨ o = 105 ∨ o = 106 ∨ o = 107 ∨ o = 108 ∨ o = 109 ∨ o = 110 ∨ o = 111 := by omega
    rcases hc with rfl | rfl | rfl | rfl | rfl | rfl | rfl | rfl | rfl <;> assumption
  exact PNR_f (PNR_o ho h) (KF_low d0 (LOW_o hm))
/-- the plans kept -/
def RC_sp (Z : ZT) : Prop := (1 ≤ Z 1 5 → PNR Z 37 (fun i => Z 121 (700 * 0 + i).toNat)) ∧ (2 ≤ Z 1 5 → PNR Z 54 (fun i => Z 121 (700 * 1 + i).toNat))
theorem RC_sp_av {S : List Nat} {Z Z' : ZT} (hk : kp S Z Z') (hS : (avo S 37 && (avo S 38 && (avo S 39 && (avo S 40 && (avo S 41 && (avo S 42 && (avo S 43 && (avo S 44 && (avo S 45 && (avo S 46 && (avo S 54 && (avo S 55 && (avo S 56 && (avo S 57 && (avo S 58 && (avo S 59 && (avo S 60 && (avo S 61 && (avo S 62 && (avo S 63 && (avo S 121 && (!(S.elem 1) && !(S.elem 6001))))))))))))))))))))))) = true) (h : RC_sp Z) : RC_sp Z' := by
  simp only [Bool.and_eq_true, Bool.not_eq_true'] at hS
  obtain ⟨h0, h1, h2, h3, h4, h5, h6, h7, h8, h9, h10, h11, h12, h13, h14, h15, h16, h17, h18, h19, h20, ⟨f0, g0⟩⟩ := hS
  have e0 : Z' 37 = Z 37 := kp_av hk h0 (by decide)
  have e1 : Z' 38 = Z 38 := kp_av hk h1 (by decide)
  have e2 : Z' 39 = Z 39 := kp_av hk h2 (by decide)
  have e3 : Z' 40 = Z 40 := kp_av hk h3 (by decide)
  have e4 : Z' 41 = Z 41 := kp_av hk h4 (by decide)
  have e5 : Z' 42 = Z 42 := kp_av hk h5 (by decide)
  have e6 : Z' 43 = Z 43 := kp_av hk h6 (by decide)
  have e7 : Z' 44 = Z 44 := kp_av hk h7 (by decide)
  have e8 : Z' 45 = Z 45 := kp_av hk h8 (by decide)
  have e9 : Z' 46 = Z 46 := kp_av hk h9 (by decide)
  have e10 : Z' 54 = Z 54 := kp_av hk h10 (by decide)
  have e11 : Z' 55 = Z 55 := kp_av hk h11 (by decide)
  have e12 : Z' 56 = Z 56 := kp_av hk h12 (by decide)
  have e13 : Z' 57 = Z 57 := kp_av hk h13 (by decide)
  have e14 : Z' 58 = Z 58 := kp_av hk h14 (by decide)
  have e15 : Z' 59 = Z 59 := kp_av hk h15 (by decide)
  have e16 : Z' 60 = Z 60 := kp_av hk h16 (by decide)
  have e17 : Z' 61 = Z 61 := kp_av hk h17 (by decide)
  have e18 : Z' 62 = Z 62 := kp_av hk h18 (by decide)
  have e19 : Z' 63 = Z 63 := kp_av hk h19 (by decide)
  have e20 : Z' 121 = Z 121 := kp_av hk h20 (by decide)
  have d0 : Z' 1 5 = Z 1 5 := hk 1 5 (by decide) (by simpa using f0) (by simpa using g0)
  have hA : ∀ o, 37 ≤ o → o ≤ 46 → Z' o = Z o := fun o h1 h2 => by
    have hc : o = 37 ∨ o = 38 ∨ o = 39 ∨ o = 40 ∨ o = 41 ∨ o = 42 ∨ o = 43 ∨ o = 44 ∨ o = 45 ∨ o = 46 := by omega
    rcases hc with rfl | rfl | rfl | rfl | rfl | rfl | rfl | rfl | rfl | rfl <;> assumption
  have hB : ∀ o, 54 ≤ o → o ≤ 63 → Z' o = Z o := fun o h1 h2 => by
    have hc : o = 54 ∨ o = 55 ∨ o = 56 ∨ o = 57 ∨ o = 58 ∨ o = 59 ∨ o = 60 ∨ o = 61 ∨ o = 62 ∨ o = 63 := by omega
    rcases hc with rfl | rfl | rfl | rfl | rfl | rfl | rfl | rfl | rfl | rfl <;> assumption
  have e1 : Z' 121 = Z 121 := by assumption
  exact ⟨fun g => SP_o hA (fun i _ _ => by rw [e1]) (h.1 (by omega)), fun g => SP_o hB (fun i _ _ => by rw [e1]) (h.2 (by omega))⟩
/-- what lies beside each cell -/
def RC_nr (Z : ZT) : Prop := NRC Z
theorem RC_nr_av {S : List Nat} {Z Z' : ZT} (hk : kp S Z Z') (hS : (avo S 3 && ((!(S.elem 2) && !(S.elem 1002)) && ((!(S.elem 2) && !(S.elem 2002)) && ((!(S.elem 2) && !(S.elem 3002)) && (!(S.elem 18) && !(S.elem 4018)))))) = true) (h : RC_nr Z) : RC_nr Z' := by
  simp only [Bool.and_eq_true, Bool.not_eq_true'] at hS
  obtain ⟨h0, ⟨f0, g0⟩, ⟨f1, g1⟩, ⟨f2, g2⟩, ⟨f3, g3⟩⟩ := hS
  have e0 : Z' 3 = Z 3 := kp_av hk h0 (by decide)
  have d0 : Z' 2 0 = Z 2 0 := hk 2 0 (by decide) (by simpa using f0) (by simpa using g0)
  have d1 : Z' 2 1 = Z 2 1 := hk 2 1 (by decide) (by simpa using f1) (by simpa using g1)
  have d2 : Z' 2 2 = Z 2 2 := hk 2 2 (by decide) (by simpa using f2) (by simpa using g2)
  have d3 : Z' 18 3 = Z 18 3 := hk 18 3 (by decide) (by simpa using f3) (by simpa using g3)
  unfold RC_nr NRC NR at h ⊢
  simp only [e0, d0, d1, d2, d3]
  exact h
/-- first numbers and rims of a setting in their ranges -/
def FRS (Z : ZT) (o : Nat) : Prop := (∀ k : Nat, k < 144 → -2000000 ≤ Z o k ∧ Z o k ≤ 2000000) ∧ ∀ l : Nat, l < 4 → -2000000 ≤ Z (o + 1) l ∧ Z (o + 1) l ≤ 2000000
theorem FRS_o {Z Z' : ZT} {o : Nat} (h1 : Z' o = Z o) (h2 : Z' (o + 1) = Z (o + 1)) (h : FRS Z o) : FRS Z' o := by
  unfold FRS at h ⊢
  rw [h1, h2]
  exact h
theorem FRS_c {Z Z0 : ZT} {d s : Nat} (h1 : CY Z Z0 d s 144) (h2 : CY Z Z0 (d + 1) (s + 1) 4) (h : FRS Z0 s) : FRS Z d := by
  refine ⟨fun k hk => ?_, fun l hl => ?_⟩
  · rw [h1 k (by omega)]
    exact h.1 k hk
  · rw [h2 l (by omega)]
    exact h.2 l hl
/-- first numbers and rims in their ranges -/
def RC_rv (Z : ZT) : Prop := FRS Z 29 ∧ (1 ≤ Z 1 5 → FRS Z 47) ∧ (2 ≤ Z 1 5 → FRS Z 64)
theorem RC_rv_av {S : List Nat} {Z Z' : ZT} (hk : kp S Z Z') (hS : (avo S 29 && (avo S 30 && (avo S 47 && (avo S 48 && (avo S 64 && (avo S 65 && (!(S.elem 1) && !(S.elem 6001)))))))) = true) (h : RC_rv Z) : RC_rv Z' := by
  simp only [Bool.and_eq_true, Bool.not_eq_true'] at hS
  obtain ⟨h0, h1, h2, h3, h4, h5, ⟨f0, g0⟩⟩ := hS
  have e0 : Z' 29 = Z 29 := kp_av hk h0 (by decide)
  have e1 : Z' 30 = Z 30 := kp_av hk h1 (by decide)
  have e2 : Z' 47 = Z 47 := kp_av hk h2 (by decide)
  have e3 : Z' 48 = Z 48 := kp_av hk h3 (by decide)
  have e4 : Z' 64 = Z 64 := kp_av hk h4 (by decide)
  have e5 : Z' 65 = Z 65 := kp_av hk h5 (by decide)
  have d0 : Z' 1 5 = Z 1 5 := hk 1 5 (by decide) (by simpa using f0) (by simpa using g0)
  unfold RC_rv FRS at h ⊢
  simp only [Nat.reduceAdd] at h ⊢
  simp only [e0, e1, e2, e3, e4, e5, d0]
  exact h
/-- factors in their ranges -/
def RC_rf (Z : ZT) : Prop := RGF Z 19 ∧ (1 ≤ Z 1 5 → RGF Z 37) ∧ (2 ≤ Z 1 5 → RGF Z 54)
theorem RC_rf_av {S : List Nat} {Z Z' : ZT} (hk : kp S Z Z') (hS : (avo S 26 && (avo S 44 && (avo S 61 && ((!(S.elem 19) && !(S.elem 2019)) && ((!(S.elem 37) && !(S.elem 2037)) && ((!(S.elem 54) && !(S.elem 2054)) && (!(S.elem 1) && !(S.elem 6001)))))))) = true) (h : RC_rf Z) : RC_rf Z' := by
  simp only [Bool.and_eq_true, Bool.not_eq_true'] at hS
  obtain ⟨h0, h1, h2, ⟨f0, g0⟩, ⟨f1, g1⟩, ⟨f2, g2⟩, ⟨f3, g3⟩⟩ := hS
  have e0 : Z' 26 = Z 26 := kp_av hk h0 (by decide)
  have e1 : Z' 44 = Z 44 := kp_av hk h1 (by decide)
  have e2 : Z' 61 = Z 61 := kp_av hk h2 (by decide)
  have d0 : Z' 19 1 = Z 19 1 := hk 19 1 (by decide) (by simpa using f0) (by simpa using g0)
  have d1 : Z' 37 1 = Z 37 1 := hk 37 1 (by decide) (by simpa using f1) (by simpa using g1)
  have d2 : Z' 54 1 = Z 54 1 := hk 54 1 (by decide) (by simpa using f2) (by simpa using g2)
  have d3 : Z' 1 5 = Z 1 5 := hk 1 5 (by decide) (by simpa using f3) (by simpa using g3)
  unfold RC_rf RGF at h ⊢
  simp only [Nat.reduceAdd] at h ⊢
  simp only [e0, e1, e2, d0, d1, d2, d3]
  exact h
/-- what never changes of the boards -/
def RC_nf (Z : ZT) : Prop := NBF Z
theorem RC_nf_av {S : List Nat} {Z Z' : ZT} (hk : kp S Z Z') (hS : ((!(S.elem 70) && !(S.elem 1070)) && ((!(S.elem 72) && !(S.elem 1072)) && ((!(S.elem 74) && !(S.elem 1074)) && ((!(S.elem 76) && !(S.elem 1076)) && ((!(S.elem 70) && !(S.elem 2070)) && ((!(S.elem 72) && !(S.elem 2072)) && ((!(S.elem 74) && !(S.elem 2074)) && ((!(S.elem 76) && !(S.elem 2076)) && (!(S.elem 72) && !(S.elem 4072)))))))))) = true) (h : RC_nf Z) : RC_nf Z' := by
  simp only [Bool.and_eq_true, Bool.not_eq_true'] at hS
  obtain ⟨⟨f0, g0⟩, ⟨f1, g1⟩, ⟨f2, g2⟩, ⟨f3, g3⟩, ⟨f4, g4⟩, ⟨f5, g5⟩, ⟨f6, g6⟩, ⟨f7, g7⟩, ⟨f8, g8⟩⟩ := hS
  have d0 : Z' 70 0 = Z 70 0 := hk 70 0 (by decide) (by simpa using f0) (by simpa using g0)
  have d1 : Z' 72 0 = Z 72 0 := hk 72 0 (by decide) (by simpa using f1) (by simpa using g1)
  have d2 : Z' 74 0 = Z 74 0 := hk 74 0 (by decide) (by simpa using f2) (by simpa using g2)
  have d3 : Z' 76 0 = Z 76 0 := hk 76 0 (by decide) (by simpa using f3) (by simpa using g3)
  have d4 : Z' 70 1 = Z 70 1 := hk 70 1 (by decide) (by simpa using f4) (by simpa using g4)
  have d5 : Z' 72 1 = Z 72 1 := hk 72 1 (by decide) (by simpa using f5) (by simpa using g5)
  have d6 : Z' 74 1 = Z 74 1 := hk 74 1 (by decide) (by simpa using f6) (by simpa using g6)
  have d7 : Z' 76 1 = Z 76 1 := hk 76 1 (by decide) (by simpa using f7) (by simpa using g7)
  have d8 : Z' 72 3 = Z 72 3 := hk 72 3 (by decide) (by simpa using f8) (by simpa using g8)
  unfold RC_nf NBF at h ⊢
  simp only [d0, d1, d2, d3, d4, d5, d6, d7, d8]
  exact h
/-- what the boards hold is right -/
def RC_nb (Z : ZT) : Prop := NBB Z
theorem RC_nb_av {S : List Nat} {Z Z' : ZT} (hk : kp S Z Z') (hS : nbA S = true) (h : RC_nb Z) : RC_nb Z' := NBB_kp hk hS h
theorem NRC_m {Z : ZT} {W H e n : Int} (h : NR Z 3 W H e n) (h0 : Z 2 0 = W) (h1 : Z 2 1 = H) (h18 : Z 18 3 = e) (h22 : Z 2 2 = n) (hn : n = W * H) : NRC Z := by
  unfold NRC
  rw [h0, h1, h18, h22]
  exact ⟨h, hn⟩
theorem cu_row {Z ZA ZB : ZT} {oA oB n : Nat} {i v xA xB bad : Int} {c d : Prop} (h : ∀ k : Nat, k < n → Z oA k = Z oB k) (pA : xA = bad ∧ ¬c ∧ ZA oA = Z oA ∨ xA = Z oA i.toNat ∧ c ∧ ZA oA = upZ Z oA i.toNat v oA) (pB : xB = bad ∧ ¬d ∧ ZB oB = ZA oB ∨ xB = ZA oB i.toNat ∧ d ∧ ZB oB = upZ ZA oB i.toNat v oB) (fA : ZA oB = Z oB) (fB : ZB oA = ZA oA) (hcd : c ↔ d) (hb : c → i.toNat < n) : xA = xB ∧ ∀ k : Nat, k < n → ZB oA k = ZB oB k := by
  rcases pA with ⟨a1, a2, a3⟩ | ⟨a1, a2, a3⟩
  · rcases pB with ⟨b1, b2, b3⟩ | ⟨b1, b2, b3⟩
    · refine ⟨a1.trans b1.symm, fun k hk => ?_⟩
      rw [fB, a3, b3, fA]
      exact h k hk
    · exact absurd (hcd.mpr b2) a2
  · rcases pB with ⟨b1, b2, b3⟩ | ⟨b1, b2, b3⟩
    · exact absurd (hcd.mp a2) b2
    · refine ⟨?_, fun k hk => ?_⟩
      · rw [a1, b1, fA]
        exact h _ (hb a2)
      · rw [fB, a3, b3]
        by_cases hq : k = i.toNat
        · rw [hq, up_eq, up_eq]
        · rw [up_nk hq, up_nk hq, fA]
          exact h k hk
theorem kp_cls {S : List Nat} {Z Z' : ZT} (h : kp S Z Z') (hS : S.all (fun e => Nat.ble (e % 1000) 99) = true) : ∀ o, 100 ≤ o → o ≤ 130 → Z' o = Z o := fun o h1 h2 => funext fun k => by
  refine h o k (by omega) (fun z => ?_) (fun z => ?_)
  · have w := Nat.le_of_ble_eq_true (List.all_eq_true.mp hS _ z)
    omega
  · have w := Nat.le_of_ble_eq_true (List.all_eq_true.mp hS _ z)
    omega
theorem kp_mod {S : List Nat} {Z Z' : ZT} (h : kp S Z Z') (hS : S.all (fun e => Nat.ble 100 (e % 1000)) = true) : ∀ o, o ≤ 99 → Z' o = Z o := fun o h1 => funext fun k => by
  refine h o k (by omega) (fun z => ?_) (fun z => ?_)
  · have w := Nat.le_of_ble_eq_true (List.all_eq_true.mp hS _ z)
    omega
  · have w := Nat.le_of_ble_eq_true (List.all_eq_true.mp hS _ z)
    omega
theorem cu_cls_dm {Z ZA : ZT} (d0 : ZA 2 0 = Z 2 0) (d1 : ZA 2 1 = Z 2 1) (d2 : ZA 2 2 = Z 2 2 ∨ ZA 2 2 = Z 2 0 * Z 2 1) (m0 : ZA 100 0 = Z 100 0) (m1 : ZA 100 1 = Z 100 1) (h : RC_dm Z) : RC_dm ZA := by
  unfold RC_dm at *
  have q : ZA 2 2 = Z 2 0 * Z 2 1 := by
    rcases d2 with d2 | d2
    · rw [d2]; exact h.2
    · exact d2
  exact ⟨⟨by omega, by omega⟩, by rw [q, d0, d1]⟩
theorem cu_cells {Z ZA : ZT} (h : RC_dm Z) (m0 : ZA 100 0 = Z 100 0) (m1 : ZA 100 1 = Z 100 1) (hI : CI Z) : ZA 100 0 * ZA 100 1 = Z 2 2 ∧ Z 2 2 ≤ 36 ∧ ZA 100 0 = Z 2 0 ∧ ZA 100 1 = Z 2 1 := by
  unfold RC_dm at h
  refine ⟨?_, (hI 2 2 4 36 rfl).2, by omega, by omega⟩
  rw [m0, m1, h.2, h.1.1, h.1.2]
theorem cu_sky_dm {Z ZA ZB : ZT} { a1 a2 xA xB : Int} (pA : (xA = -1 ∧ ¬(2 ≤ a1 ∧ a1 ≤ 6 ∧ 2 ≤ a2 ∧ a2 ≤ 6) ∧ (ZA 2 0 = Z 2 0 ∧ ZA 2 1 = Z 2 1 ∧ ZA 2 2 = Z 2 2 ∧ ZA 1 5 = Z 1 5 ∧ ZA 18 4 = Z 18 4) ∧ (ZA 29 = Z 29 ∧ ZA 89 = Z 89) ∧ (ZA 81 = Z 81 ∧ ZA 82 = Z 82) ∨ xA = a1 * a2 ∧ (2 ≤ a1 ∧ a1 ≤ 6 ∧ 2 ≤ a2 ∧ a2 ≤ 6) ∧ (ZA 2 0 = a1 ∧ ZA 2 1 = a2 ∧ ZA 2 2 = a1 * a2 ∧ ZA 1 5 = 0 ∧ ZA 18 4 = 0) ∧ (FL ZA 29 2000000 144 ∧ FL ZA 89 0 36) ∧ (FL ZA 81 2000000000000 6 ∧ FL ZA 82 2000000000000 6)) ∧ (ZA 18 3 = Z 18 3) ∧ True) (pB : (xB = -1 ∧ ¬(2 ≤ a1 ∧ a1 ≤ 6 ∧ 2 ≤ a2 ∧ a2 ≤ 6) ∧ (ZB 100 0 = ZA 100 0 ∧ ZB 100 1 = ZA 100 1 ∧ ZB 100 30 = ZA 100 30 ∧ ZB 100 19 = ZA 100 19) ∧ (ZB 112 = ZA 112 ∧ ZB 120 = ZA 120) ∧ ZB 117 = ZA 117 ∨ xB = a1 * a2 ∧ (2 ≤ a1 ∧ a1 ≤ 6 ∧ 2 ≤ a2 ∧ a2 ≤ 6) ∧ (ZB 100 0 = a1 ∧ ZB 100 1 = a2 ∧ ZB 100 30 = 0 ∧ ZB 100 19 = 0) ∧ (FL ZB 112 2000000 144 ∧ FL ZB 120 0 36) ∧ FL ZB 117 2000000000000 12) ∧ (ZB 100 30 = ZA 100 30 ∨ ZB 100 30 = 0) ∧ True) (hkA : kp ([1, 2, 3, 18, 29, 70, 72, 74, 76, 78, 81, 82, 88, 89, 91, 93]) Z ZA) (hkB : kp ([112, 117, 120, 1100, 2100, 20100, 31100]) ZA ZB) (hI : CI Z) (h_dm : RC_dm Z)  : xA = xB ∧ RC_dm ZB := by
  have fm := kp_cls hkA (by rfl)
  have fc := kp_mod hkB (by rfl)
  have m100_0 := congrFun (fm 100 (by decide) (by decide)) 0
  have m100_1 := congrFun (fm 100 (by decide) (by decide)) 1
  have c2_0 := congrFun (fc 2 (by decide)) 0
  have c2_1 := congrFun (fc 2 (by decide)) 1
  have c2_2 := congrFun (fc 2 (by decide)) 2
  unfold RC_dm at *
  rcases pA.1 with ⟨a, b, ⟨d0, d1, d2, -⟩, -⟩ | ⟨a, b, ⟨d0, d1, d2, -⟩, -⟩ <;> rcases pB.1 with ⟨e, f, ⟨g0, g1, -⟩, -⟩ | ⟨e, f, ⟨g0, g1, -⟩, -⟩
  · exact ⟨a.trans e.symm, ⟨by omega, by omega⟩, by rw [c2_0, c2_1, c2_2, d0, d1, d2]; exact h_dm.2⟩
  · exact absurd f b
  · exact absurd b f
  · exact ⟨a.trans e.symm, ⟨by omega, by omega⟩, by rw [c2_0, c2_1, c2_2, d0, d1, d2]⟩
theorem cu_sky_sn {Z ZA ZB : ZT} { a1 a2 xA xB : Int} (pA : (xA = -1 ∧ ¬(2 ≤ a1 ∧ a1 ≤ 6 ∧ 2 ≤ a2 ∧ a2 ≤ 6) ∧ (ZA 2 0 = Z 2 0 ∧ ZA 2 1 = Z 2 1 ∧ ZA 2 2 = Z 2 2 ∧ ZA 1 5 = Z 1 5 ∧ ZA 18 4 = Z 18 4) ∧ (ZA 29 = Z 29 ∧ ZA 89 = Z 89) ∧ (ZA 81 = Z 81 ∧ ZA 82 = Z 82) ∨ xA = a1 * a2 ∧ (2 ≤ a1 ∧ a1 ≤ 6 ∧ 2 ≤ a2 ∧ a2 ≤ 6) ∧ (ZA 2 0 = a1 ∧ ZA 2 1 = a2 ∧ ZA 2 2 = a1 * a2 ∧ ZA 1 5 = 0 ∧ ZA 18 4 = 0) ∧ (FL ZA 29 2000000 144 ∧ FL ZA 89 0 36) ∧ (FL ZA 81 2000000000000 6 ∧ FL ZA 82 2000000000000 6)) ∧ (ZA 18 3 = Z 18 3) ∧ True) (pB : (xB = -1 ∧ ¬(2 ≤ a1 ∧ a1 ≤ 6 ∧ 2 ≤ a2 ∧ a2 ≤ 6) ∧ (ZB 100 0 = ZA 100 0 ∧ ZB 100 1 = ZA 100 1 ∧ ZB 100 30 = ZA 100 30 ∧ ZB 100 19 = ZA 100 19) ∧ (ZB 112 = ZA 112 ∧ ZB 120 = ZA 120) ∧ ZB 117 = ZA 117 ∨ xB = a1 * a2 ∧ (2 ≤ a1 ∧ a1 ≤ 6 ∧ 2 ≤ a2 ∧ a2 ≤ 6) ∧ (ZB 100 0 = a1 ∧ ZB 100 1 = a2 ∧ ZB 100 30 = 0 ∧ ZB 100 19 = 0) ∧ (FL ZB 112 2000000 144 ∧ FL ZB 120 0 36) ∧ FL ZB 117 2000000000000 12) ∧ (ZB 100 30 = ZA 100 30 ∨ ZB 100 30 = 0) ∧ True) (hkA : kp ([1, 2, 3, 18, 29, 70, 72, 74, 76, 78, 81, 82, 88, 89, 91, 93]) Z ZA) (hkB : kp ([112, 117, 120, 1100, 2100, 20100, 31100]) ZA ZB) (hI : CI Z) (h_sn : RC_sn Z)  : RC_sn ZB := by
  have fm := kp_cls hkA (by rfl)
  have fc := kp_mod hkB (by rfl)
  have c3 := congrFun (fc 18 (by decide)) 3
  have c4 := congrFun (fc 18 (by decide)) 4
  have m2 := congrFun (fm 100 (by decide) (by decide)) 2
  have m19 := congrFun (fm 100 (by decide) (by decide)) 19
  unfold RC_sn at *
  obtain ⟨⟨s3, s4⟩, t30, t29, t31, t32, t33, t34⟩ := h_sn
  have b2 : ZB 100 2 = ZA 100 2 := kpF 100 2 hkB (by rfl)
  have a3 : ZA 18 3 = Z 18 3 := pA.2.1
  have c29 := fc 29 (by decide)
  have m112 := fm 112 (by decide) (by decide)
  have r30 : ∀ k : Nat, k < 4 → ZB 30 k = ZB 101 k := by rw [fc 30 (by decide), (kp_av (o := 30) hkA (by rfl) (by decide)), (kp_av (o := 101) hkB (by rfl) (by decide)), fm 101 (by decide) (by decide)]; exact t30
  have r31 : ∀ k : Nat, k < 12 → ZB 31 k = ZB 113 k := by rw [fc 31 (by decide), (kp_av (o := 31) hkA (by rfl) (by decide)), (kp_av (o := 113) hkB (by rfl) (by decide)), fm 113 (by decide) (by decide)]; exact t31
  have r32 : ∀ k : Nat, k < 12 → ZB 32 k = ZB 114 k := by rw [fc 32 (by decide), (kp_av (o := 32) hkA (by rfl) (by decide)), (kp_av (o := 114) hkB (by rfl) (by decide)), fm 114 (by decide) (by decide)]; exact t32
  have r33 : ∀ k : Nat, k < 12 → ZB 33 k = ZB 115 k := by rw [fc 33 (by decide), (kp_av (o := 33) hkA (by rfl) (by decide)), (kp_av (o := 115) hkB (by rfl) (by decide)), fm 115 (by decide) (by decide)]; exact t33
  have r34 : ∀ k : Nat, k < 12 → ZB 34 k = ZB 116 k := by rw [fc 34 (by decide), (kp_av (o := 34) hkA (by rfl) (by decide)), (kp_av (o := 116) hkB (by rfl) (by decide)), fm 116 (by decide) (by decide)]; exact t34
  rcases pA.1 with ⟨a, b, ⟨-, -, -, -, d⟩, ⟨d2, -⟩, -⟩ | ⟨a, b, ⟨-, -, -, -, d⟩, ⟨d2, -⟩, -⟩ <;> rcases pB.1 with ⟨e, f, ⟨-, -, -, g⟩, ⟨g2, -⟩, -⟩ | ⟨e, f, ⟨-, -, -, g⟩, ⟨g2, -⟩, -⟩
  · have r29 : ∀ k : Nat, k < 144 → ZB 29 k = ZB 112 k := by rw [c29, d2, g2, m112]; exact t29
    exact ⟨⟨by omega, by omega⟩, r30, r29, r31, r32, r33, r34⟩
  · exact absurd f b
  · exact absurd b f
  · have r29 : ∀ k : Nat, k < 144 → ZB 29 k = ZB 112 k := fun k hk => by rw [c29, d2 k (by omega), g2 k (by omega)]
    exact ⟨⟨by omega, by omega⟩, r30, r29, r31, r32, r33, r34⟩
theorem cu_sky_st {Z ZA ZB : ZT} { a1 a2 xA xB : Int} (pA : (xA = -1 ∧ ¬(2 ≤ a1 ∧ a1 ≤ 6 ∧ 2 ≤ a2 ∧ a2 ≤ 6) ∧ (ZA 2 0 = Z 2 0 ∧ ZA 2 1 = Z 2 1 ∧ ZA 2 2 = Z 2 2 ∧ ZA 1 5 = Z 1 5 ∧ ZA 18 4 = Z 18 4) ∧ (ZA 29 = Z 29 ∧ ZA 89 = Z 89) ∧ (ZA 81 = Z 81 ∧ ZA 82 = Z 82) ∨ xA = a1 * a2 ∧ (2 ≤ a1 ∧ a1 ≤ 6 ∧ 2 ≤ a2 ∧ a2 ≤ 6) ∧ (ZA 2 0 = a1 ∧ ZA 2 1 = a2 ∧ ZA 2 2 = a1 * a2 ∧ ZA 1 5 = 0 ∧ ZA 18 4 = 0) ∧ (FL ZA 29 2000000 144 ∧ FL ZA 89 0 36) ∧ (FL ZA 81 2000000000000 6 ∧ FL ZA 82 2000000000000 6)) ∧ (ZA 18 3 = Z 18 3) ∧ True) (pB : (xB = -1 ∧ ¬(2 ≤ a1 ∧ a1 ≤ 6 ∧ 2 ≤ a2 ∧ a2 ≤ 6) ∧ (ZB 100 0 = ZA 100 0 ∧ ZB 100 1 = ZA 100 1 ∧ ZB 100 30 = ZA 100 30 ∧ ZB 100 19 = ZA 100 19) ∧ (ZB 112 = ZA 112 ∧ ZB 120 = ZA 120) ∧ ZB 117 = ZA 117 ∨ xB = a1 * a2 ∧ (2 ≤ a1 ∧ a1 ≤ 6 ∧ 2 ≤ a2 ∧ a2 ≤ 6) ∧ (ZB 100 0 = a1 ∧ ZB 100 1 = a2 ∧ ZB 100 30 = 0 ∧ ZB 100 19 = 0) ∧ (FL ZB 112 2000000 144 ∧ FL ZB 120 0 36) ∧ FL ZB 117 2000000000000 12) ∧ (ZB 100 30 = ZA 100 30 ∨ ZB 100 30 = 0) ∧ True) (hkA : kp ([1, 2, 3, 18, 29, 70, 72, 74, 76, 78, 81, 82, 88, 89, 91, 93]) Z ZA) (hkB : kp ([112, 117, 120, 1100, 2100, 20100, 31100]) ZA ZB) (hI : CI Z) (h_stG : RC_stG Z)  : RC_stG ZB := by
  have fm := kp_cls hkA (by rfl)
  have fc := kp_mod hkB (by rfl)
  have c := congrFun (fc 1 (by decide)) 5
  have m := congrFun (fm 100 (by decide) (by decide)) 30
  unfold RC_stG at *
  rcases pA.1 with ⟨a, b, ⟨-, -, -, d, -⟩, -⟩ | ⟨a, b, ⟨-, -, -, d, -⟩, -⟩ <;> rcases pB.1 with ⟨e, f, ⟨-, -, g, -⟩, -⟩ | ⟨e, f, ⟨-, -, g, -⟩, -⟩
  · omega
  · exact absurd f b
  · exact absurd b f
  · omega
theorem cu_sky_sk {Z ZA ZB : ZT} { a1 a2 xA xB : Int} (pA : (xA = -1 ∧ ¬(2 ≤ a1 ∧ a1 ≤ 6 ∧ 2 ≤ a2 ∧ a2 ≤ 6) ∧ (ZA 2 0 = Z 2 0 ∧ ZA 2 1 = Z 2 1 ∧ ZA 2 2 = Z 2 2 ∧ ZA 1 5 = Z 1 5 ∧ ZA 18 4 = Z 18 4) ∧ (ZA 29 = Z 29 ∧ ZA 89 = Z 89) ∧ (ZA 81 = Z 81 ∧ ZA 82 = Z 82) ∨ xA = a1 * a2 ∧ (2 ≤ a1 ∧ a1 ≤ 6 ∧ 2 ≤ a2 ∧ a2 ≤ 6) ∧ (ZA 2 0 = a1 ∧ ZA 2 1 = a2 ∧ ZA 2 2 = a1 * a2 ∧ ZA 1 5 = 0 ∧ ZA 18 4 = 0) ∧ (FL ZA 29 2000000 144 ∧ FL ZA 89 0 36) ∧ (FL ZA 81 2000000000000 6 ∧ FL ZA 82 2000000000000 6)) ∧ (ZA 18 3 = Z 18 3) ∧ True) (pB : (xB = -1 ∧ ¬(2 ≤ a1 ∧ a1 ≤ 6 ∧ 2 ≤ a2 ∧ a2 ≤ 6) ∧ (ZB 100 0 = ZA 100 0 ∧ ZB 100 1 = ZA 100 1 ∧ ZB 100 30 = ZA 100 30 ∧ ZB 100 19 = ZA 100 19) ∧ (ZB 112 = ZA 112 ∧ ZB 120 = ZA 120) ∧ ZB 117 = ZA 117 ∨ xB = a1 * a2 ∧ (2 ≤ a1 ∧ a1 ≤ 6 ∧ 2 ≤ a2 ∧ a2 ≤ 6) ∧ (ZB 100 0 = a1 ∧ ZB 100 1 = a2 ∧ ZB 100 30 = 0 ∧ ZB 100 19 = 0) ∧ (FL ZB 112 2000000 144 ∧ FL ZB 120 0 36) ∧ FL ZB 117 2000000000000 12) ∧ (ZB 100 30 = ZA 100 30 ∨ ZB 100 30 = 0) ∧ True) (hkA : kp ([1, 2, 3, 18, 29, 70, 72, 74, 76, 78, 81, 82, 88, 89, 91, 93]) Z ZA) (hkB : kp ([112, 117, 120, 1100, 2100, 20100, 31100]) ZA ZB) (hI : CI Z) (h_sk : RC_sk Z)  : RC_sk ZB := by
  have fm := kp_cls hkA (by rfl)
  have fc := kp_mod hkB (by rfl)
  have c := congrFun (fc 1 (by decide)) 5
  have e121 : ZB 121 = Z 121 := (kp_av (o := 121) hkB (by rfl) (by decide)).trans (fm 121 (by decide) (by decide))
  have q : ∀ s : Nat, ∀ k : Int, s = 36 ∨ s = 53 → SRK Z s k → SRK ZB s k := fun s k hs h => by
    unfold SRK at h ⊢
    rcases hs with rfl | rfl
    · simp only [Nat.reduceAdd] at h ⊢
      rw [fc 36 (by decide), (kp_av (o := 36) hkA (by rfl) (by decide)), fc 47 (by decide), (kp_av (o := 47) hkA (by rfl) (by decide)), fc 48 (by decide), (kp_av (o := 48) hkA (by rfl) (by decide)), fc 49 (by decide), (kp_av (o := 49) hkA (by rfl) (by decide)), fc 50 (by decide), (kp_av (o := 50) hkA (by rfl) (by decide)), fc 51 (by decide), (kp_av (o := 51) hkA (by rfl) (by decide)), fc 52 (by decide), (kp_av (o := 52) hkA (by rfl) (by decide)), e121]
      exact h
    · simp only [Nat.reduceAdd] at h ⊢
      rw [fc 53 (by decide), (kp_av (o := 53) hkA (by rfl) (by decide)), fc 64 (by decide), (kp_av (o := 64) hkA (by rfl) (by decide)), fc 65 (by decide), (kp_av (o := 65) hkA (by rfl) (by decide)), fc 66 (by decide), (kp_av (o := 66) hkA (by rfl) (by decide)), fc 67 (by decide), (kp_av (o := 67) hkA (by rfl) (by decide)), fc 68 (by decide), (kp_av (o := 68) hkA (by rfl) (by decide)), fc 69 (by decide), (kp_av (o := 69) hkA (by rfl) (by decide)), e121]
      exact h
  unfold RC_sk at *
  rcases pA.1 with ⟨a, b, ⟨-, -, -, d, -⟩, -⟩ | ⟨a, b, ⟨-, -, -, d, -⟩, -⟩
  · exact ⟨fun h => q 36 0 (Or.inl rfl) (h_sk.1 (by omega)), fun h => q 53 1 (Or.inr rfl) (h_sk.2 (by omega))⟩
  · exact ⟨fun h => by omega, fun h => by omega⟩
theorem cu_rule_sn {Z ZA ZB : ZT} { a1 a2 xA xB : Int} (pA : (xA = -1 ∧ ¬(a1 = 0 ∧ 0 ≤ a2 ∧ a2 ≤ 2) ∧ ¬(a1 = 1 ∧ 0 ≤ a2 ∧ a2 ≤ 9) ∧ ZA 18 3 = Z 18 3 ∧ ZA 86 1 = Z 86 1 ∨ xA = Z 18 3 ∧ (a1 = 0 ∧ 0 ≤ a2 ∧ a2 ≤ 2) ∧ ZA 18 3 = a2 ∧ ZA 86 1 = Z 86 1 ∨ xA = Z 86 1 ∧ (a1 = 1 ∧ 0 ≤ a2 ∧ a2 ≤ 9) ∧ ZA 18 3 = Z 18 3 ∧ ZA 86 1 = a2) ∧ (ZA 18 4 = Z 18 4) ∧ (ZA 2 0 = Z 2 0) ∧ (ZA 2 1 = Z 2 1) ∧ (ZA 2 2 = Z 2 2 ∨ ZA 2 2 = Z 2 0 * Z 2 1) ∧ True) (pB : (xB = -1 ∧ ¬(a1 = 0 ∧ 0 ≤ a2 ∧ a2 ≤ 2) ∧ ¬(a1 = 1 ∧ 0 ≤ a2 ∧ a2 ≤ 9) ∧ ZB 100 2 = ZA 100 2 ∧ ZB 100 3 = ZA 100 3 ∨ xB = ZA 100 2 ∧ (a1 = 0 ∧ 0 ≤ a2 ∧ a2 ≤ 2) ∧ ZB 100 2 = a2 ∧ ZB 100 3 = ZA 100 3 ∨ xB = ZA 100 3 ∧ (a1 = 1 ∧ 0 ≤ a2 ∧ a2 ≤ 9) ∧ ZB 100 2 = ZA 100 2 ∧ ZB 100 3 = a2) ∧ True) (hkA : kp ([2, 3, 18, 70, 72, 74, 76, 78, 86, 88, 91, 93]) Z ZA) (hkB : kp ([3100, 4100]) ZA ZB) (hI : CI Z) (h_sn : RC_sn Z) (h_wk : RC_wk Z)  : xA = xB ∧ RC_sn ZB ∧ RC_wk ZB := by
  have fm := kp_cls hkA (by rfl)
  have fc := kp_mod hkB (by rfl)
  have c3 := congrFun (fc 18 (by decide)) 3
  have c4 := congrFun (fc 18 (by decide)) 4
  have m2 := congrFun (fm 100 (by decide) (by decide)) 2
  have m19 := congrFun (fm 100 (by decide) (by decide)) 19
  unfold RC_sn at *
  obtain ⟨⟨s3, s4⟩, t30, t29, t31, t32, t33, t34⟩ := h_sn
  have b19 : ZB 100 19 = ZA 100 19 := kpF 100 19 hkB (by rfl)
  have w1 := congrFun (fc 86 (by decide)) 1
  have m3 := congrFun (fm 100 (by decide) (by decide)) 3
  have a4 : ZA 18 4 = Z 18 4 := pA.2.1
  unfold RC_wk at *
  have r30 : ∀ k : Nat, k < 4 → ZB 30 k = ZB 101 k := by rw [fc 30 (by decide), (kp_av (o := 30) hkA (by rfl) (by decide)), (kp_av (o := 101) hkB (by rfl) (by decide)), fm 101 (by decide) (by decide)]; exact t30
  have r29 : ∀ k : Nat, k < 144 → ZB 29 k = ZB 112 k := by rw [fc 29 (by decide), (kp_av (o := 29) hkA (by rfl) (by decide)), (kp_av (o := 112) hkB (by rfl) (by decide)), fm 112 (by decide) (by decide)]; exact t29
  have r31 : ∀ k : Nat, k < 12 → ZB 31 k = ZB 113 k := by rw [fc 31 (by decide), (kp_av (o := 31) hkA (by rfl) (by decide)), (kp_av (o := 113) hkB (by rfl) (by decide)), fm 113 (by decide) (by decide)]; exact t31
  have r32 : ∀ k : Nat, k < 12 → ZB 32 k = ZB 114 k := by rw [fc 32 (by decide), (kp_av (o := 32) hkA (by rfl) (by decide)), (kp_av (o := 114) hkB (by rfl) (by decide)), fm 114 (by decide) (by decide)]; exact t32
  have r33 : ∀ k : Nat, k < 12 → ZB 33 k = ZB 115 k := by rw [fc 33 (by decide), (kp_av (o := 33) hkA (by rfl) (by decide)), (kp_av (o := 115) hkB (by rfl) (by decide)), fm 115 (by decide) (by decide)]; exact t33
  have r34 : ∀ k : Nat, k < 12 → ZB 34 k = ZB 116 k := by rw [fc 34 (by decide), (kp_av (o := 34) hkA (by rfl) (by decide)), (kp_av (o := 116) hkB (by rfl) (by decide)), fm 116 (by decide) (by decide)]; exact t34
  have g : xA = xB ∧ (ZB 18 3 = ZB 100 2 ∧ ZB 86 1 = ZB 100 3) := by
    have p := pA.1
    have q := pB.1
    rcases p with ⟨a, b, b2, d, d2⟩ | ⟨a, b, d, d2⟩ | ⟨a, b, d, d2⟩ <;> rcases q with ⟨e, f, f2, g, g2⟩ | ⟨e, f, g, g2⟩ | ⟨e, f, g, g2⟩ <;> omega
  exact ⟨g.1, ⟨⟨g.2.1, by omega⟩, r30, r29, r31, r32, r33, r34⟩, g.2.2⟩
theorem cu_rim_sn {Z ZA ZB : ZT} { a1 a2 xA xB : Int} (pA : (xA = -2000000 ∧ ¬(0 ≤ a1 ∧ a1 ≤ 3 ∧ -1000000 ≤ a2 ∧ a2 ≤ 1000000) ∧ ZA 30 = Z 30 ∨ xA = Z 30 a1.toNat ∧ (0 ≤ a1 ∧ a1 ≤ 3 ∧ -1000000 ≤ a2 ∧ a2 ≤ 1000000) ∧ ZA 30 = upZ Z 30 a1.toNat a2 30) ∧ True) (pB : (xB = -2000000 ∧ ¬(0 ≤ a1 ∧ a1 ≤ 3 ∧ -1000000 ≤ a2 ∧ a2 ≤ 1000000) ∧ ZB 101 = ZA 101 ∨ xB = ZA 101 a1.toNat ∧ (0 ≤ a1 ∧ a1 ≤ 3 ∧ -1000000 ≤ a2 ∧ a2 ≤ 1000000) ∧ ZB 101 = upZ ZA 101 a1.toNat a2 101) ∧ True) (hkA : kp ([30, 70, 72, 74, 76, 78]) Z ZA) (hkB : kp ([101]) ZA ZB) (hI : CI Z) (h_sn : RC_sn Z)  : xA = xB ∧ RC_sn ZB := by
  have fm := kp_cls hkA (by rfl)
  have fc := kp_mod hkB (by rfl)
  have c3 := congrFun (fc 18 (by decide)) 3
  have c4 := congrFun (fc 18 (by decide)) 4
  have m2 := congrFun (fm 100 (by decide) (by decide)) 2
  have m19 := congrFun (fm 100 (by decide) (by decide)) 19
  unfold RC_sn at *
  obtain ⟨⟨s3, s4⟩, t30, t29, t31, t32, t33, t34⟩ := h_sn
  have a3 : ZA 18 3 = Z 18 3 := kpF 18 3 hkA (by rfl)
  have a4 : ZA 18 4 = Z 18 4 := kpF 18 4 hkA (by rfl)
  have b2 : ZB 100 2 = ZA 100 2 := kpF 100 2 hkB (by rfl)
  have b19 : ZB 100 19 = ZA 100 19 := kpF 100 19 hkB (by rfl)
  have r29 : ∀ k : Nat, k < 144 → ZB 29 k = ZB 112 k := by rw [fc 29 (by decide), (kp_av (o := 29) hkA (by rfl) (by decide)), (kp_av (o := 112) hkB (by rfl) (by decide)), fm 112 (by decide) (by decide)]; exact t29
  have r31 : ∀ k : Nat, k < 12 → ZB 31 k = ZB 113 k := by rw [fc 31 (by decide), (kp_av (o := 31) hkA (by rfl) (by decide)), (kp_av (o := 113) hkB (by rfl) (by decide)), fm 113 (by decide) (by decide)]; exact t31
  have r32 : ∀ k : Nat, k < 12 → ZB 32 k = ZB 114 k := by rw [fc 32 (by decide), (kp_av (o := 32) hkA (by rfl) (by decide)), (kp_av (o := 114) hkB (by rfl) (by decide)), fm 114 (by decide) (by decide)]; exact t32
  have r33 : ∀ k : Nat, k < 12 → ZB 33 k = ZB 115 k := by rw [fc 33 (by decide), (kp_av (o := 33) hkA (by rfl) (by decide)), (kp_av (o := 115) hkB (by rfl) (by decide)), fm 115 (by decide) (by decide)]; exact t33
  have r34 : ∀ k : Nat, k < 12 → ZB 34 k = ZB 116 k := by rw [fc 34 (by decide), (kp_av (o := 34) hkA (by rfl) (by decide)), (kp_av (o := 116) hkB (by rfl) (by decide)), fm 116 (by decide) (by decide)]; exact t34
  have g := cu_row (n := 4) t30 pA.1 pB.1 (fm 101 (by decide) (by decide)) (fc 30 (by decide)) Iff.rfl (fun hc => by omega)
  have r30 := g.2
  exact ⟨g.1, ⟨by omega, by omega⟩, r30, r29, r31, r32, r33, r34⟩
theorem cu_first_sn {Z ZA ZB : ZT} { a1 a2 a3 xA xB : Int} (pA : (xA = -2000000 ∧ ¬((0 ≤ a1 ∧ a1 < Z 2 2 ∧ a1 < 36) ∧ (0 ≤ a2 ∧ a2 ≤ 3) ∧ (a3 = 2000000 ∨ -1000000 ≤ a3 ∧ a3 ≤ 1000000)) ∧ ZA 29 = Z 29 ∨ xA = Z 29 (4 * a1 + a2).toNat ∧ ((0 ≤ a1 ∧ a1 < Z 2 2 ∧ a1 < 36) ∧ (0 ≤ a2 ∧ a2 ≤ 3) ∧ (a3 = 2000000 ∨ -1000000 ≤ a3 ∧ a3 ≤ 1000000)) ∧ ZA 29 = upZ Z 29 (4 * a1 + a2).toNat a3 29) ∧ True) (pB : (xB = -2000000 ∧ ¬((0 ≤ a1 ∧ a1 < ZA 100 0 * ZA 100 1) ∧ (0 ≤ a2 ∧ a2 ≤ 3) ∧ (a3 = 2000000 ∨ -1000000 ≤ a3 ∧ a3 ≤ 1000000)) ∧ ZB 112 = ZA 112 ∨ xB = ZA 112 (4 * a1 + a2).toNat ∧ ((0 ≤ a1 ∧ a1 < ZA 100 0 * ZA 100 1) ∧ (0 ≤ a2 ∧ a2 ≤ 3) ∧ (a3 = 2000000 ∨ -1000000 ≤ a3 ∧ a3 ≤ 1000000)) ∧ ZB 112 = upZ ZA 112 (4 * a1 + a2).toNat a3 112) ∧ True) (hkA : kp ([29, 70, 72, 74, 76, 78]) Z ZA) (hkB : kp ([112]) ZA ZB) (hI : CI Z) (h_sn : RC_sn Z) (h_dm : RC_dm Z)  : xA = xB ∧ RC_sn ZB := by
  have fm := kp_cls hkA (by rfl)
  have fc := kp_mod hkB (by rfl)
  have c3 := congrFun (fc 18 (by decide)) 3
  have c4 := congrFun (fc 18 (by decide)) 4
  have m2 := congrFun (fm 100 (by decide) (by decide)) 2
  have m19 := congrFun (fm 100 (by decide) (by decide)) 19
  obtain ⟨he, h36, -, -⟩ := cu_cells h_dm (congrFun (fm 100 (by decide) (by decide)) 0) (congrFun (fm 100 (by decide) (by decide)) 1) hI
  unfold RC_sn at *
  obtain ⟨⟨s3, s4⟩, t30, t29, t31, t32, t33, t34⟩ := h_sn
  have a3 : ZA 18 3 = Z 18 3 := kpF 18 3 hkA (by rfl)
  have a4 : ZA 18 4 = Z 18 4 := kpF 18 4 hkA (by rfl)
  have b2 : ZB 100 2 = ZA 100 2 := kpF 100 2 hkB (by rfl)
  have b19 : ZB 100 19 = ZA 100 19 := kpF 100 19 hkB (by rfl)
  have r30 : ∀ k : Nat, k < 4 → ZB 30 k = ZB 101 k := by rw [fc 30 (by decide), (kp_av (o := 30) hkA (by rfl) (by decide)), (kp_av (o := 101) hkB (by rfl) (by decide)), fm 101 (by decide) (by decide)]; exact t30
  have r31 : ∀ k : Nat, k < 12 → ZB 31 k = ZB 113 k := by rw [fc 31 (by decide), (kp_av (o := 31) hkA (by rfl) (by decide)), (kp_av (o := 113) hkB (by rfl) (by decide)), fm 113 (by decide) (by decide)]; exact t31
  have r32 : ∀ k : Nat, k < 12 → ZB 32 k = ZB 114 k := by rw [fc 32 (by decide), (kp_av (o := 32) hkA (by rfl) (by decide)), (kp_av (o := 114) hkB (by rfl) (by decide)), fm 114 (by decide) (by decide)]; exact t32
  have r33 : ∀ k : Nat, k < 12 → ZB 33 k = ZB 115 k := by rw [fc 33 (by decide), (kp_av (o := 33) hkA (by rfl) (by decide)), (kp_av (o := 115) hkB (by rfl) (by decide)), fm 115 (by decide) (by decide)]; exact t33
  have r34 : ∀ k : Nat, k < 12 → ZB 34 k = ZB 116 k := by rw [fc 34 (by decide), (kp_av (o := 34) hkA (by rfl) (by decide)), (kp_av (o := 116) hkB (by rfl) (by decide)), fm 116 (by decide) (by decide)]; exact t34
  have g := cu_row (n := 144) t29 pA.1 pB.1 (fm 112 (by decide) (by decide)) (fc 29 (by decide)) (by rw [he]; omega) (fun hc => by omega)
  have r29 := g.2
  exact ⟨g.1, ⟨by omega, by omega⟩, r30, r29, r31, r32, r33, r34⟩
theorem cu_slip_sn {Z ZA ZB : ZT} { a1 a2 a3 a4 xA xB : Int} (pA : (xA = -1 ∧ ¬((1 ≤ a1 ∧ a1 ≤ 12) ∧ (0 ≤ a2 ∧ a2 < Z 2 2 ∧ a2 < 36) ∧ (0 ≤ a3 ∧ a3 ≤ 3) ∧ (-1000000 ≤ a4 ∧ a4 ≤ 1000000) ∧ a4 ≠ 0) ∧ ZA 18 4 = Z 18 4 ∧ ZA 31 = Z 31 ∧ ZA 32 = Z 32 ∧ ZA 33 = Z 33 ∧ ZA 34 = Z 34 ∨ xA = -3 ∧ ((1 ≤ a1 ∧ a1 ≤ 12) ∧ (0 ≤ a2 ∧ a2 < Z 2 2 ∧ a2 < 36) ∧ (0 ≤ a3 ∧ a3 ≤ 3) ∧ (-1000000 ≤ a4 ∧ a4 ≤ 1000000) ∧ a4 ≠ 0) ∧ 12 ≤ Z 18 4 ∧ ZA 18 4 = Z 18 4 ∧ ZA 31 = Z 31 ∧ ZA 32 = Z 32 ∧ ZA 33 = Z 33 ∧ ZA 34 = Z 34 ∨ xA = Z 18 4 + 1 ∧ ((1 ≤ a1 ∧ a1 ≤ 12) ∧ (0 ≤ a2 ∧ a2 < Z 2 2 ∧ a2 < 36) ∧ (0 ≤ a3 ∧ a3 ≤ 3) ∧ (-1000000 ≤ a4 ∧ a4 ≤ 1000000) ∧ a4 ≠ 0) ∧ Z 18 4 ≤ 11 ∧ ZA 18 4 = Z 18 4 + 1 ∧ ZA 31 = upZ Z 31 (Z 18 4).toNat a1 31 ∧ ZA 32 = upZ Z 32 (Z 18 4).toNat a2 32 ∧ ZA 33 = upZ Z 33 (Z 18 4).toNat a3 33 ∧ ZA 34 = upZ Z 34 (Z 18 4).toNat a4 34) ∧ True) (pB : (xB = -1 ∧ ¬((1 ≤ a1 ∧ a1 ≤ 12) ∧ (0 ≤ a2 ∧ a2 < ZA 100 0 * ZA 100 1) ∧ (0 ≤ a3 ∧ a3 ≤ 3) ∧ (-1000000 ≤ a4 ∧ a4 ≤ 1000000) ∧ a4 ≠ 0) ∧ ZB 100 19 = ZA 100 19 ∧ ZB 113 = ZA 113 ∧ ZB 114 = ZA 114 ∧ ZB 115 = ZA 115 ∧ ZB 116 = ZA 116 ∨ xB = -3 ∧ ((1 ≤ a1 ∧ a1 ≤ 12) ∧ (0 ≤ a2 ∧ a2 < ZA 100 0 * ZA 100 1) ∧ (0 ≤ a3 ∧ a3 ≤ 3) ∧ (-1000000 ≤ a4 ∧ a4 ≤ 1000000) ∧ a4 ≠ 0) ∧ 12 ≤ ZA 100 19 ∧ ZB 100 19 = ZA 100 19 ∧ ZB 113 = ZA 113 ∧ ZB 114 = ZA 114 ∧ ZB 115 = ZA 115 ∧ ZB 116 = ZA 116 ∨ xB = ZA 100 19 + 1 ∧ ((1 ≤ a1 ∧ a1 ≤ 12) ∧ (0 ≤ a2 ∧ a2 < ZA 100 0 * ZA 100 1) ∧ (0 ≤ a3 ∧ a3 ≤ 3) ∧ (-1000000 ≤ a4 ∧ a4 ≤ 1000000) ∧ a4 ≠ 0) ∧ ZA 100 19 ≤ 11 ∧ ZB 100 19 = ZA 100 19 + 1 ∧ ZB 113 = upZ ZA 113 (ZA 100 19).toNat a1 113 ∧ ZB 114 = upZ ZA 114 (ZA 100 19).toNat a2 114 ∧ ZB 115 = upZ ZA 115 (ZA 100 19).toNat a3 115 ∧ ZB 116 = upZ ZA 116 (ZA 100 19).toNat a4 116) ∧ True) (hkA : kp ([5018, 31, 32, 33, 34, 72, 74]) Z ZA) (hkB : kp ([113, 114, 115, 116, 20100]) ZA ZB) (hI : CI Z) (h_sn : RC_sn Z) (h_dm : RC_dm Z)  : xA = xB ∧ RC_sn ZB := by
  have fm := kp_cls hkA (by rfl)
  have fc := kp_mod hkB (by rfl)
  have c3 := congrFun (fc 18 (by decide)) 3
  have c4 := congrFun (fc 18 (by decide)) 4
  have m2 := congrFun (fm 100 (by decide) (by decide)) 2
  have m19 := congrFun (fm 100 (by decide) (by decide)) 19
  obtain ⟨he, h36, -, -⟩ := cu_cells h_dm (congrFun (fm 100 (by decide) (by decide)) 0) (congrFun (fm 100 (by decide) (by decide)) 1) hI
  unfold RC_sn at *
  obtain ⟨⟨s3, s4⟩, t30, t29, t31, t32, t33, t34⟩ := h_sn
  have a3 : ZA 18 3 = Z 18 3 := kpF 18 3 hkA (by rfl)
  have b2 : ZB 100 2 = ZA 100 2 := kpF 100 2 hkB (by rfl)
  have r30 : ∀ k : Nat, k < 4 → ZB 30 k = ZB 101 k := by rw [fc 30 (by decide), (kp_av (o := 30) hkA (by rfl) (by decide)), (kp_av (o := 101) hkB (by rfl) (by decide)), fm 101 (by decide) (by decide)]; exact t30
  have r29 : ∀ k : Nat, k < 144 → ZB 29 k = ZB 112 k := by rw [fc 29 (by decide), (kp_av (o := 29) hkA (by rfl) (by decide)), (kp_av (o := 112) hkB (by rfl) (by decide)), fm 112 (by decide) (by decide)]; exact t29
  have p := pA.1
  have q := pB.1
  rw [he] at q
  have hs : ZA 100 19 = Z 18 4 := by omega
  have hix : (Z 18 4).toNat = (ZA 100 19).toNat := by rw [hs]
  rcases p with ⟨a, b, d, d1, d2, d3, d4⟩ | ⟨a, b, b2, d, d1, d2, d3, d4⟩ | ⟨a, b, b2, d, d1, d2, d3, d4⟩ <;> rcases q with ⟨e, f, g, g1, g2, g3, g4⟩ | ⟨e, f, f2, g, g1, g2, g3, g4⟩ | ⟨e, f, f2, g, g1, g2, g3, g4⟩
  · have r31 : ∀ k : Nat, k < 12 → ZB 31 k = ZB 113 k := by rw [fc 31 (by decide), d1, g1, fm 113 (by decide) (by decide)]; exact t31
    have r32 : ∀ k : Nat, k < 12 → ZB 32 k = ZB 114 k := by rw [fc 32 (by decide), d2, g2, fm 114 (by decide) (by decide)]; exact t32
    have r33 : ∀ k : Nat, k < 12 → ZB 33 k = ZB 115 k := by rw [fc 33 (by decide), d3, g3, fm 115 (by decide) (by decide)]; exact t33
    have r34 : ∀ k : Nat, k < 12 → ZB 34 k = ZB 116 k := by rw [fc 34 (by decide), d4, g4, fm 116 (by decide) (by decide)]; exact t34
    exact ⟨by omega, ⟨by omega, by omega⟩, r30, r29, r31, r32, r33, r34⟩
  · exfalso; exact b (by omega)
  · exfalso; exact b (by omega)
  · exfalso; exact f (by omega)
  · have r31 : ∀ k : Nat, k < 12 → ZB 31 k = ZB 113 k := by rw [fc 31 (by decide), d1, g1, fm 113 (by decide) (by decide)]; exact t31
    have r32 : ∀ k : Nat, k < 12 → ZB 32 k = ZB 114 k := by rw [fc 32 (by decide), d2, g2, fm 114 (by decide) (by decide)]; exact t32
    have r33 : ∀ k : Nat, k < 12 → ZB 33 k = ZB 115 k := by rw [fc 33 (by decide), d3, g3, fm 115 (by decide) (by decide)]; exact t33
    have r34 : ∀ k : Nat, k < 12 → ZB 34 k = ZB 116 k := by rw [fc 34 (by decide), d4, g4, fm 116 (by decide) (by decide)]; exact t34
    exact ⟨by omega, ⟨by omega, by omega⟩, r30, r29, r31, r32, r33, r34⟩
  · exfalso; omega
  · exfalso; exact f (by omega)
  · exfalso; omega
  · have r31 : ∀ k : Nat, k < 12 → ZB 31 k = ZB 113 k := fun k hk => by
      rw [fc 31 (by decide), d1, g1, hix]
      by_cases hq : k = (ZA 100 19).toNat
      · rw [hq, up_eq, up_eq]
      · rw [up_nk hq, up_nk hq, fm 113 (by decide) (by decide)]
        exact t31 k hk
    have r32 : ∀ k : Nat, k < 12 → ZB 32 k = ZB 114 k := fun k hk => by
      rw [fc 32 (by decide), d2, g2, hix]
      by_cases hq : k = (ZA 100 19).toNat
      · rw [hq, up_eq, up_eq]
      · rw [up_nk hq, up_nk hq, fm 114 (by decide) (by decide)]
        exact t32 k hk
    have r33 : ∀ k : Nat, k < 12 → ZB 33 k = ZB 115 k := fun k hk => by
      rw [fc 33 (by decide), d3, g3, hix]
      by_cases hq : k = (ZA 100 19).toNat
      · rw [hq, up_eq, up_eq]
      · rw [up_nk hq, up_nk hq, fm 115 (by decide) (by decide)]
        exact t33 k hk
    have r34 : ∀ k : Nat, k < 12 → ZB 34 k = ZB 116 k := fun k hk => by
      rw [fc 34 (by decide), d4, g4, hix]
      by_cases hq : k = (ZA 100 19).toNat
      · rw [hq, up_eq, up_eq]
      · rw [up_nk hq, up_nk hq, fm 116 (by decide) (by decide)]
        exact t34 k hk
    exact ⟨by omega, ⟨by omega, by omega⟩, r30, r29, r31, r32, r33, r34⟩
theorem cu_mend_sn {Z ZA ZB : ZT} { xA xB : Int} (pA : (xA = -2 ∧ Z 18 4 < 1 ∧ ZA 18 4 = Z 18 4 ∨ xA = Z 18 4 - 1 ∧ 1 ≤ Z 18 4 ∧ ZA 18 4 = Z 18 4 - 1) ∧ True) (pB : (xB = -2 ∧ ZA 100 19 < 1 ∧ ZB 100 19 = ZA 100 19 ∨ xB = ZA 100 19 - 1 ∧ 1 ≤ ZA 100 19 ∧ ZB 100 19 = ZA 100 19 - 1) ∧ True) (hkA : kp ([5018, 72, 74]) Z ZA) (hkB : kp ([20100]) ZA ZB) (hI : CI Z) (h_sn : RC_sn Z)  : xA = xB ∧ RC_sn ZB := by
  have fm := kp_cls hkA (by rfl)
  have fc := kp_mod hkB (by rfl)
  have c3 := congrFun (fc 18 (by decide)) 3
  have c4 := congrFun (fc 18 (by decide)) 4
  have m2 := congrFun (fm 100 (by decide) (by decide)) 2
  have m19 := congrFun (fm 100 (by decide) (by decide)) 19
  unfold RC_sn at *
  obtain ⟨⟨s3, s4⟩, t30, t29, t31, t32, t33, t34⟩ := h_sn
  have a3 : ZA 18 3 = Z 18 3 := kpF 18 3 hkA (by rfl)
  have b2 : ZB 100 2 = ZA 100 2 := kpF 100 2 hkB (by rfl)
  have r30 : ∀ k : Nat, k < 4 → ZB 30 k = ZB 101 k := by rw [fc 30 (by decide), (kp_av (o := 30) hkA (by rfl) (by decide)), (kp_av (o := 101) hkB (by rfl) (by decide)), fm 101 (by decide) (by decide)]; exact t30
  have r29 : ∀ k : Nat, k < 144 → ZB 29 k = ZB 112 k := by rw [fc 29 (by decide), (kp_av (o := 29) hkA (by rfl) (by decide)), (kp_av (o := 112) hkB (by rfl) (by decide)), fm 112 (by decide) (by decide)]; exact t29
  have r31 : ∀ k : Nat, k < 12 → ZB 31 k = ZB 113 k := by rw [fc 31 (by decide), (kp_av (o := 31) hkA (by rfl) (by decide)), (kp_av (o := 113) hkB (by rfl) (by decide)), fm 113 (by decide) (by decide)]; exact t31
  have r32 : ∀ k : Nat, k < 12 → ZB 32 k = ZB 114 k := by rw [fc 32 (by decide), (kp_av (o := 32) hkA (by rfl) (by decide)), (kp_av (o := 114) hkB (by rfl) (by decide)), fm 114 (by decide) (by decide)]; exact t32
  have r33 : ∀ k : Nat, k < 12 → ZB 33 k = ZB 115 k := by rw [fc 33 (by decide), (kp_av (o := 33) hkA (by rfl) (by decide)), (kp_av (o := 115) hkB (by rfl) (by decide)), fm 115 (by decide) (by decide)]; exact t33
  have r34 : ∀ k : Nat, k < 12 → ZB 34 k = ZB 116 k := by rw [fc 34 (by decide), (kp_av (o := 34) hkA (by rfl) (by decide)), (kp_av (o := 116) hkB (by rfl) (by decide)), fm 116 (by decide) (by decide)]; exact t34
  have p := pA.1
  have q := pB.1
  have g : xA = xB ∧ ZB 18 4 = ZB 100 19 := by rcases p with ⟨a, b, d⟩ | ⟨a, b, d⟩ <;> rcases q with ⟨e, f, g⟩ | ⟨e, f, g⟩ <;> omega
  exact ⟨g.1, ⟨by omega, g.2⟩, r30, r29, r31, r32, r33, r34⟩
theorem srk_keep {Z ZA ZB : ZT} {d : Nat} {k : Int} (hd : d + 16 ≤ 99) (h : RC_sn Z) (sc : SCP ZA Z d 18) (kw : AL (KWP ZA ZB k) (fun _ => True)) (fm : ∀ o, 100 ≤ o → o ≤ 130 → ZA o = Z o) (fc : ∀ o, o ≤ 99 → ZB o = ZA o) : SRK ZB d k := by
  unfold RC_sn at h
  obtain ⟨⟨s3, s4⟩, t30, t29, t31, t32, t33, t34⟩ := h
  obtain ⟨q3, q4, q11, q12, q13, q14, q15, q16, -⟩ := sc
  have e1 := kw 1 (by decide) (by decide) trivial
  have e2 := kw 2 (by decide) (by decide) trivial
  unfold KWP at e1 e2
  rw [KF_ix (o := 100) (k := 2) (by rfl) (by decide), fm 100 (by decide) (by decide)] at e1
  rw [KF_ix (o := 100) (k := 19) (by rfl) (by decide), fm 100 (by decide) (by decide)] at e2
  refine ⟨by rw [fc d (by omega), q3, e1, s3], by rw [fc d (by omega), q4, e2, s4], fun j hj => by have e := kw (3 + (j : Int)) (by omega) (by omega) trivial; unfold KWP at e; rw [KF_ix (o := 101) (k := j) (i := 3 + (j : Int)) (by simp [ix]; omega) (by omega), fm 101 (by decide) (by decide)] at e; rw [fc (d + 12) (by omega), q12 j (by omega), e]; exact t30 j hj, fun j hj => by have e := kw (271 + (j : Int)) (by omega) (by omega) trivial; unfold KWP at e; rw [KF_ix (o := 112) (k := j) (i := 271 + (j : Int)) (by simp [ix]; omega) (by omega), fm 112 (by decide) (by decide)] at e; rw [fc (d + 11) (by omega), q11 j (by omega), e]; exact t29 j hj, fun j hj => by have e := kw (415 + (j : Int)) (by omega) (by omega) trivial; unfold KWP at e; rw [KF_ix (o := 113) (k := j) (i := 415 + (j : Int)) (by simp [ix]; omega) (by omega), fm 113 (by decide) (by decide)] at e; rw [fc (d + 13) (by omega), q13 j (by omega), e]; exact t31 j hj, fun j hj => by have e := kw (427 + (j : Int)) (by omega) (by omega) trivial; unfold KWP at e; rw [KF_ix (o := 114) (k := j) (i := 427 + (j : Int)) (by simp [ix]; omega) (by omega), fm 114 (by decide) (by decide)] at e; rw [fc (d + 14) (by omega), q14 j (by omega), e]; exact t32 j hj, fun j hj => by have e := kw (439 + (j : Int)) (by omega) (by omega) trivial; unfold KWP at e; rw [KF_ix (o := 115) (k := j) (i := 439 + (j : Int)) (by simp [ix]; omega) (by omega), fm 115 (by decide) (by decide)] at e; rw [fc (d + 15) (by omega), q15 j (by omega), e]; exact t33 j hj, fun j hj => by have e := kw (451 + (j : Int)) (by omega) (by omega) trivial; unfold KWP at e; rw [KF_ix (o := 116) (k := j) (i := 451 + (j : Int)) (by simp [ix]; omega) (by omega), fm 116 (by decide) (by decide)] at e; rw [fc (d + 16) (by omega), q16 j (by omega), e]; exact t34 j hj⟩
theorem sn_back {Z ZA ZB : ZT} {d : Nat} {k : Int} (h : SRK Z d k) (sc : SCP ZA Z 18 d) (bw : AL (BWP ZA ZB k) (fun _ => True)) (fm : ZA 121 = Z 121) (fc : ∀ o, o ≤ 99 → ZB o = ZA o) : RC_sn ZB := by
  unfold SRK at h
  obtain ⟨s3, s4, t12, t11, t13, t14, t15, t16⟩ := h
  obtain ⟨q3, q4, q11, q12, q13, q14, q15, q16, -⟩ := sc
  have e1 := bw 1 (by decide) (by decide) trivial
  have e2 := bw 2 (by decide) (by decide) trivial
  unfold BWP at e1 e2
  rw [KF_ix (o := 100) (k := 2) (by rfl) (by decide), fm] at e1
  rw [KF_ix (o := 100) (k := 19) (by rfl) (by decide), fm] at e2
  refine ⟨⟨by rw [fc 18 (by decide), q3, e1, s3], by rw [fc 18 (by decide), q4, e2, s4]⟩, fun j hj => by have e := bw (3 + (j : Int)) (by omega) (by omega) trivial; unfold BWP at e; rw [KF_ix (o := 101) (k := j) (i := 3 + (j : Int)) (by simp [ix]; omega) (by omega), fm] at e; rw [fc 30 (by decide)]; refine (q12 j (by omega)).trans ?_; rw [e]; exact t12 j hj, fun j hj => by have e := bw (271 + (j : Int)) (by omega) (by omega) trivial; unfold BWP at e; rw [KF_ix (o := 112) (k := j) (i := 271 + (j : Int)) (by simp [ix]; omega) (by omega), fm] at e; rw [fc 29 (by decide)]; refine (q11 j (by omega)).trans ?_; rw [e]; exact t11 j hj, fun j hj => by have e := bw (415 + (j : Int)) (by omega) (by omega) trivial; unfold BWP at e; rw [KF_ix (o := 113) (k := j) (i := 415 + (j : Int)) (by simp [ix]; omega) (by omega), fm] at e; rw [fc 31 (by decide)]; refine (q13 j (by omega)).trans ?_; rw [e]; exact t13 j hj, fun j hj => by have e := bw (427 + (j : Int)) (by omega) (by omega) trivial; unfold BWP at e; rw [KF_ix (o := 114) (k := j) (i := 427 + (j : Int)) (by simp [ix]; omega) (by omega), fm] at e; rw [fc 32 (by decide)]; refine (q14 j (by omega)).trans ?_; rw [e]; exact t14 j hj, fun j hj => by have e := bw (439 + (j : Int)) (by omega) (by omega) trivial; unfold BWP at e; rw [KF_ix (o := 115) (k := j) (i := 439 + (j : Int)) (by simp [ix]; omega) (by omega), fm] at e; rw [fc 33 (by decide)]; refine (q15 j (by omega)).trans ?_; rw [e]; exact t15 j hj, fun j hj => by have e := bw (451 + (j : Int)) (by omega) (by omega) trivial; unfold BWP at e; rw [KF_ix (o := 116) (k := j) (i := 451 + (j : Int)) (by simp [ix]; omega) (by omega), fm] at e; rw [fc 34 (by decide)]; refine (q16 j (by omega)).trans ?_; rw [e]; exact t16 j hj⟩
theorem cu_keep_sk {Z ZA ZB : ZT} { xA xB : Int} (pA : (xA = -3 ∧ Z 1 5 = 2 ∧ ZA 1 5 = 2 ∨ xA = Z 1 5 + 1 ∧ Z 1 5 ≤ 1 ∧ ZA 1 5 = Z 1 5 + 1) ∧ (Z 1 5 = 0 → SCP ZA Z 36 18 ∧ UNC ZA Z 53 69) ∧ (Z 1 5 = 1 → SCP ZA Z 53 18 ∧ UNC ZA Z 36 52) ∧ (Z 1 5 = 2 → UNC ZA Z 36 52 ∧ UNC ZA Z 53 69) ∧ True) (pB : (KB ZB) ∧ (E1 ZB) ∧ (KE ZB) ∧ (xB = -3 ∧ ZA 100 30 = 2 ∧ ZB 100 30 = 2 ∨ xB = ZA 100 30 + 1 ∧ ZA 100 30 ≤ 1 ∧ ZB 100 30 = ZA 100 30 + 1) ∧ (∀ o : Nat, o ≠ 121 → o ≠ 100 → ZB o = ZA o) ∧ (∀ q : Nat, q ≠ 30 → ZB 100 q = ZA 100 q) ∧ (ZA 100 30 = 2 → ZB 121 = ZA 121) ∧ (ZA 100 30 ≤ 1 → OS ZA ZB (ZA 100 30) ∧ AL (KWP ZA ZB (ZA 100 30)) (fun _ => True)) ∧ True) (hkA : kp ([1, 36, 37, 38, 39, 40, 41, 42, 43, 44, 45, 46, 47, 48, 49, 50, 51, 52, 53, 54, 55, 56, 57, 58, 59, 60, 61, 62, 63, 64, 65, 66, 67, 68, 69]) Z ZA) (hkB : kp ([8100, 3100, 20100, 101, 103, 104, 105, 106, 107, 108, 109, 110, 111, 112, 113, 114, 115, 116, 121, 31100]) ZA ZB) (hI : CI Z) (h_stG : RC_stG Z) (h_sn : RC_sn Z) (h_sk : RC_sk Z)  : xA = xB ∧ RC_stG ZB ∧ RC_sn ZB ∧ RC_sk ZB := by
  have fm := kp_cls hkA (by rfl)
  have fc := kp_mod hkB (by rfl)
  have c5 := congrFun (fc 1 (by decide)) 5
  have m30 := congrFun (fm 100 (by decide) (by decide)) 30
  obtain ⟨pa, p0, p1, p2, -⟩ := pA
  obtain ⟨-, -, -, pb, q1, q2, q3, q4, -⟩ := pB
  have hst : ZA 100 30 = Z 1 5 := by unfold RC_stG at h_stG; omega
  have hn : RC_sn ZB := by
    have h := h_sn
    unfold RC_sn at h ⊢
    rw [fc 18 (by decide), (kp_av (o := 18) hkA (by rfl) (by decide)), fc 30 (by decide), (kp_av (o := 30) hkA (by rfl) (by decide)), fc 29 (by decide), (kp_av (o := 29) hkA (by rfl) (by decide)), fc 31 (by decide), (kp_av (o := 31) hkA (by rfl) (by decide)), fc 32 (by decide), (kp_av (o := 32) hkA (by rfl) (by decide)), fc 33 (by decide), (kp_av (o := 33) hkA (by rfl) (by decide)), fc 34 (by decide), (kp_av (o := 34) hkA (by rfl) (by decide)), q2 2 (by decide), q2 19 (by decide), fm 100 (by decide) (by decide), q1 101 (by decide) (by decide), fm 101 (by decide) (by decide), q1 112 (by decide) (by decide), fm 112 (by decide) (by decide), q1 113 (by decide) (by decide), fm 113 (by decide) (by decide), q1 114 (by decide) (by decide), fm 114 (by decide) (by decide), q1 115 (by decide) (by decide), fm 115 (by decide) (by decide), q1 116 (by decide) (by decide), fm 116 (by decide) (by decide)]
    exact h
  have hs := h_sk
  unfold RC_sk at hs
  have old : ∀ s : Nat, ∀ k : Int, UNC ZA Z s (s + 16) → s + 16 ≤ 99 → (∀ i : Int, 0 ≤ i → i < 463 → ZB 121 (700 * k + i).toNat = ZA 121 (700 * k + i).toNat) → SRK Z s k → SRK ZB s k := fun s k hu hl ho h => by
    obtain ⟨s3, s4, t12, t11, t13, t14, t15, t16⟩ := h
    refine ⟨by rw [fc s (by omega), hu s (by omega) (by omega), ho 1 (by decide) (by decide), fm 121 (by decide) (by decide)]; exact s3, by rw [fc s (by omega), hu s (by omega) (by omega), ho 2 (by decide) (by decide), fm 121 (by decide) (by decide)]; exact s4, fun j hj => by rw [fc (s + 12) (by omega), hu (s + 12) (by omega) (by omega), ho (3 + (j : Int)) (by omega) (by omega), fm 121 (by decide) (by decide)]; exact t12 j hj, fun j hj => by rw [fc (s + 11) (by omega), hu (s + 11) (by omega) (by omega), ho (271 + (j : Int)) (by omega) (by omega), fm 121 (by decide) (by decide)]; exact t11 j hj, fun j hj => by rw [fc (s + 13) (by omega), hu (s + 13) (by omega) (by omega), ho (415 + (j : Int)) (by omega) (by omega), fm 121 (by decide) (by decide)]; exact t13 j hj, fun j hj => by rw [fc (s + 14) (by omega), hu (s + 14) (by omega) (by omega), ho (427 + (j : Int)) (by omega) (by omega), fm 121 (by decide) (by decide)]; exact t14 j hj, fun j hj => by rw [fc (s + 15) (by omega), hu (s + 15) (by omega) (by omega), ho (439 + (j : Int)) (by omega) (by omega), fm 121 (by decide) (by decide)]; exact t15 j hj, fun j hj => by rw [fc (s + 16) (by omega), hu (s + 16) (by omega) (by omega), ho (451 + (j : Int)) (by omega) (by omega), fm 121 (by decide) (by decide)]; exact t16 j hj⟩
  have g : xA = xB ∧ ZB 1 5 = ZB 100 30 := by rcases pa with ⟨a, b, d⟩ | ⟨a, b, d⟩ <;> rcases pb with ⟨e, f, g⟩ | ⟨e, f, g⟩ <;> omega
  refine ⟨g.1, g.2, hn, ?_⟩
  unfold RC_sk
  have hcase : Z 1 5 = 2 ∧ ZB 1 5 = 2 ∨ Z 1 5 = 0 ∧ ZB 1 5 = 1 ∨ Z 1 5 = 1 ∧ ZB 1 5 = 2 := by
    have := hI 1 5 0 2 rfl
    rcases pa with ⟨a, b, d⟩ | ⟨a, b, d⟩ <;> omega
  rcases hcase with ⟨h5, h6⟩ | ⟨h5, h6⟩ | ⟨h5, h6⟩
  · have e121 := q3 (by omega)
    exact ⟨fun _ => old 36 0 (p2 h5).1 (by decide) (fun i _ _ => by rw [e121]) (hs.1 (by omega)), fun _ => old 53 1 (p2 h5).2 (by decide) (fun i _ _ => by rw [e121]) (hs.2 (by omega))⟩
  · have kw := (q4 (by omega)).2
    have z : ZA 100 30 = 0 := by omega
    rw [z] at kw
    exact ⟨fun _ => srk_keep (by decide) h_sn (p0 h5).1 kw fm fc, fun h => by omega⟩
  · have kw := (q4 (by omega)).2
    have os := (q4 (by omega)).1
    have z : ZA 100 30 = 1 := by omega
    rw [z] at kw os
    exact ⟨fun _ => old 36 0 (p1 h5).2 (by decide) (fun i i0 i1 => os 0 (by decide) (by decide) (by decide) i i0 i1) (hs.1 (by omega)), fun _ => srk_keep (by decide) h_sn (p1 h5).1 kw fm fc⟩
theorem cu_back_sk {Z ZA ZB : ZT} { xA xB : Int} (pA : (ZA 2 0 = Z 2 0) ∧ (ZA 2 1 = Z 2 1) ∧ (ZA 2 2 = Z 2 2 ∨ ZA 2 2 = Z 2 0 * Z 2 1) ∧ (xA = -2 ∧ Z 1 5 = 0 ∧ ZA 1 5 = 0 ∨ xA = Z 1 5 - 1 ∧ 1 ≤ Z 1 5 ∧ ZA 1 5 = Z 1 5 - 1) ∧ (Z 1 5 = 1 → SCP ZA Z 18 36) ∧ (Z 1 5 = 2 → SCP ZA Z 18 53) ∧ (Z 1 5 = 0 → UNC ZA Z 18 34) ∧ True) (pB : (KB ZB) ∧ (E1 ZB) ∧ (KE ZB) ∧ (xB = -2 ∧ ZA 100 30 = 0 ∧ ZB 100 30 = 0 ∨ xB = ZA 100 30 - 1 ∧ 1 ≤ ZA 100 30 ∧ ZB 100 30 = ZA 100 30 - 1) ∧ (ZB 121 = ZA 121) ∧ (ZA 100 30 = 0 → ∀ o : Nat, ZB o = ZA o) ∧ (1 ≤ ZA 100 30 → AL (BWP ZA ZB (ZA 100 30 - 1)) (fun _ => True)) ∧ True) (hkA : kp ([1, 2, 3, 18, 19, 20, 21, 22, 23, 24, 25, 26, 27, 28, 29, 30, 31, 32, 33, 34, 70, 72, 74, 76, 78, 88, 91, 93]) Z ZA) (hkB : kp ([8100, 3100, 20100, 101, 103, 104, 105, 106, 107, 108, 109, 110, 111, 112, 113, 114, 115, 116, 121, 31100]) ZA ZB) (hI : CI Z) (h_stG : RC_stG Z) (h_sn : RC_sn Z) (h_sk : RC_sk Z)  : xA = xB ∧ RC_stG ZB ∧ RC_sn ZB ∧ RC_sk ZB := by
  have fm := kp_cls hkA (by rfl)
  have fc := kp_mod hkB (by rfl)
  have c5 := congrFun (fc 1 (by decide)) 5
  have m30 := congrFun (fm 100 (by decide) (by decide)) 30
  obtain ⟨-, -, -, pa, p1, p2, p0, -⟩ := pA
  obtain ⟨-, -, -, pb, q0, q1, q2, -⟩ := pB
  have hst : ZA 100 30 = Z 1 5 := by unfold RC_stG at h_stG; omega
  have e121 : ZB 121 = Z 121 := q0.trans (fm 121 (by decide) (by decide))
  have q : ∀ s : Nat, ∀ k : Int, s = 36 ∨ s = 53 → SRK Z s k → SRK ZB s k := fun s k hs h => by
    unfold SRK at h ⊢
    rcases hs with rfl | rfl
    · simp only [Nat.reduceAdd] at h ⊢
      rw [fc 36 (by decide), (kp_av (o := 36) hkA (by rfl) (by decide)), fc 47 (by decide), (kp_av (o := 47) hkA (by rfl) (by decide)), fc 48 (by decide), (kp_av (o := 48) hkA (by rfl) (by decide)), fc 49 (by decide), (kp_av (o := 49) hkA (by rfl) (by decide)), fc 50 (by decide), (kp_av (o := 50) hkA (by rfl) (by decide)), fc 51 (by decide), (kp_av (o := 51) hkA (by rfl) (by decide)), fc 52 (by decide), (kp_av (o := 52) hkA (by rfl) (by decide)), e121]
      exact h
    · simp only [Nat.reduceAdd] at h ⊢
      rw [fc 53 (by decide), (kp_av (o := 53) hkA (by rfl) (by decide)), fc 64 (by decide), (kp_av (o := 64) hkA (by rfl) (by decide)), fc 65 (by decide), (kp_av (o := 65) hkA (by rfl) (by decide)), fc 66 (by decide), (kp_av (o := 66) hkA (by rfl) (by decide)), fc 67 (by decide), (kp_av (o := 67) hkA (by rfl) (by decide)), fc 68 (by decide), (kp_av (o := 68) hkA (by rfl) (by decide)), fc 69 (by decide), (kp_av (o := 69) hkA (by rfl) (by decide)), e121]
      exact h
  have hs := h_sk
  unfold RC_sk at hs
  have g : xA = xB ∧ ZB 1 5 = ZB 100 30 := by rcases pa with ⟨a, b, d⟩ | ⟨a, b, d⟩ <;> rcases pb with ⟨e, f, g⟩ | ⟨e, f, g⟩ <;> omega
  have hle : ZB 1 5 ≤ Z 1 5 := by rcases pa with ⟨a, b, d⟩ | ⟨a, b, d⟩ <;> omega
  refine ⟨g.1, g.2, ?_, ?_⟩
  · have := hI 1 5 0 2 rfl
    have hcase : Z 1 5 = 0 ∨ Z 1 5 = 1 ∨ Z 1 5 = 2 := by omega
    rcases hcase with h5 | h5 | h5
    · have u := p0 h5
      have w := q1 (by omega)
      have h := h_sn
      unfold RC_sn at h ⊢
      rw [fc 18 (by decide), u 18 (by decide) (by decide), w 100, fm 100 (by decide) (by decide), fc 30 (by decide), u 30 (by decide) (by decide), w 101, fm 101 (by decide) (by decide), fc 29 (by decide), u 29 (by decide) (by decide), w 112, fm 112 (by decide) (by decide), fc 31 (by decide), u 31 (by decide) (by decide), w 113, fm 113 (by decide) (by decide), fc 32 (by decide), u 32 (by decide) (by decide), w 114, fm 114 (by decide) (by decide), fc 33 (by decide), u 33 (by decide) (by decide), w 115, fm 115 (by decide) (by decide), fc 34 (by decide), u 34 (by decide) (by decide), w 116, fm 116 (by decide) (by decide)]
      exact h
    · have bw := q2 (by omega)
      have z : ZA 100 30 - 1 = 0 := by omega
      rw [z] at bw
      exact sn_back (hs.1 (by omega)) (p1 h5) bw (fm 121 (by decide) (by decide)) fc
    · have bw := q2 (by omega)
      have z : ZA 100 30 - 1 = 1 := by omega
      rw [z] at bw
      exact sn_back (hs.2 (by omega)) (p2 h5) bw (fm 121 (by decide) (by decide)) fc
  · unfold RC_sk
    exact ⟨fun h => q 36 0 (Or.inl rfl) (hs.1 (by omega)), fun h => q 53 1 (Or.inr rfl) (hs.2 (by omega))⟩
theorem tx_b {Z ZA : ZT} (h : RC_tx Z) (m : ZA 102 = Z 102) (m5 : ZA 100 5 = Z 100 5) : mB ZA = bC Z := by
  obtain ⟨h1, h2⟩ := h
  funext k
  unfold mB bC
  rw [m, m5, ← h1]
  by_cases hq : 0 ≤ k ∧ k < Z 6 1 ∧ k < 160
  · rw [if_pos hq, if_pos hq]
    exact (h2 k.toNat (by omega)).1.symm
  · rw [if_neg hq, if_neg hq]
theorem tx_byC {Z : ZT} (h : RC_tx Z) : BYT (bC Z) := by
  obtain ⟨h1, h2⟩ := h
  intro k
  unfold bC
  by_cases hq : 0 ≤ k ∧ k < Z 6 1 ∧ k < 160
  · rw [if_pos hq]
    have := h2 k.toNat (by omega)
    omega
  · rw [if_neg hq]
    omega
theorem tx_byM {Z : ZT} (h : RC_tx Z) : BYT (mB Z) := by
  rw [tx_b h rfl rfl]
  exact tx_byC h
theorem pn_0 {Z : ZT} (h0 : Z 19 0 = 0) (h1 : Z 19 1 = 0) (o : OI Z 20 4) (q : FL Z 21 (-1) 4) (m7 : Z 100 7 = 0) (m4 : ∀ k : Nat, k < 4 → Z 104 k = -4) : RC_pn Z := by
  refine PNR_0 (d := 19) h0 h1 o q (by rw [KFp_0]; exact m7) (fun l hl => ?_)
  rw [KFp_11 hl, m4 l hl]
  decide
/-- fewer kept, and those as they were -/
theorem sp_less {Z ZB : ZT} (h5 : ZB 1 5 ≤ Z 1 5) (hA : ∀ o, 36 ≤ o → o ≤ 69 → ZB o = Z o) (e1 : ZB 121 = Z 121) (h : RC_sp Z) : RC_sp ZB := by
  unfold RC_sp at h ⊢
  exact ⟨fun g => SP_o (fun o h1 h2 => hA o (by omega) (by omega)) (fun i _ _ => by rw [e1]) (h.1 (by omega)), fun g => SP_o (fun o h1 h2 => hA o (by omega) (by omega)) (fun i _ _ => by rw [e1]) (h.2 (by omega))⟩
theorem cu_write_tx {Z ZA ZB : ZT} { a1 a2 xA xB : Int} (pA : (xA = -1 ∧ ¬(1 ≤ a1 ∧ a1 ≤ 8) ∧ ZA 6 1 = Z 6 1 ∧ ZA 7 = Z 7 ∨ xA = -3 ∧ (1 ≤ a1 ∧ a1 ≤ 8) ∧ 160 < Z 6 1 + a1 ∧ ZA 6 1 = Z 6 1 ∧ ZA 7 = Z 7 ∨ xA = Z 6 1 + a1 ∧ (1 ≤ a1 ∧ a1 ≤ 8) ∧ Z 6 1 + a1 ≤ 160 ∧ ZA 6 1 = Z 6 1 + a1 ∧ WRB Z ZA 7 (Z 6 1) a1 (-1) a2) ∧ True) (pB : (xB = -1 ∧ ¬(1 ≤ a1 ∧ a1 ≤ 8) ∧ ZB 100 5 = ZA 100 5 ∧ ZB 102 = ZA 102 ∨ xB = -3 ∧ (1 ≤ a1 ∧ a1 ≤ 8) ∧ 160 < ZA 100 5 + a1 ∧ ZB 100 5 = ZA 100 5 ∧ ZB 102 = ZA 102 ∨ xB = ZA 100 5 + a1 ∧ (1 ≤ a1 ∧ a1 ≤ 8) ∧ ZA 100 5 + a1 ≤ 160 ∧ ZB 100 5 = ZA 100 5 + a1 ∧ WRB ZA ZB 102 (ZA 100 5) a1 (-1) a2) ∧ True) (hkA : kp ([7, 2006]) Z ZA) (hkB : kp ([102, 6100]) ZA ZB) (hI : CI Z) (h_tx : RC_tx Z)  : xA = xB ∧ RC_tx ZB := by
  have fm := kp_cls hkA (by rfl)
  have fc := kp_mod hkB (by rfl)
  have m5 := congrFun (fm 100 (by decide) (by decide)) 5
  have c61 := congrFun (fc 6 (by decide)) 1
  have m102 := fm 102 (by decide) (by decide)
  have c7 := fc 7 (by decide)
  have hr := hI 100 5 0 160 rfl
  unfold RC_tx at *
  obtain ⟨hl, hb⟩ := h_tx
  rcases pA.1 with ⟨a, b, d, e⟩ | ⟨a, b, b2, d, e⟩ | ⟨a, b, b2, d, e1, e2⟩ <;> rcases pB.1 with ⟨a', b', d', e'⟩ | ⟨a', b', b2', d', e'⟩ | ⟨a', b', b2', d', e1', e2'⟩
  · refine ⟨by omega, by omega, fun k hk => ?_⟩
    rw [c7, e, e', m102]
    exact hb k (by omega)
  · exact absurd b' b
  · exact absurd b' b
  · exact absurd b b'
  · refine ⟨by omega, by omega, fun k hk => ?_⟩
    rw [c7, e, e', m102]
    exact hb k (by omega)
  · omega
  · exact absurd b b'
  · omega
  · refine ⟨by omega, by omega, fun k hk => ?_⟩
    rw [c7]
    by_cases hq : (k : Int) < Z 6 1
    · rw [e1 k hq, e1' k (by omega), m102]
      exact hb k hq
    · have q1 := e2 (k - (Z 6 1).toNat) (by omega)
      have q2 := e2' (k - (Z 6 1).toNat) (by omega)
      rw [show (Z 6 1).toNat + (k - (Z 6 1).toNat) = k by omega] at q1
      rw [show (ZA 100 5).toNat + (k - (Z 6 1).toNat) = k by omega] at q2
      rw [q1, q2]
      have r := byV_m (v := a2) (i := a1 - 1 - ((k - (Z 6 1).toNat : Nat) : Int)) (by omega) (by omega)
      exact ⟨rfl, r.2⟩
theorem cu_wipe_tx {Z ZA ZB : ZT} { xA xB : Int} (pA : (xA = Z 6 1) ∧ (ZA 6 1 = 0) ∧ True) (pB : (xB = ZA 100 5) ∧ (ZB 100 5 = 0) ∧ True) (hkA : kp ([2006]) Z ZA) (hkB : kp ([6100]) ZA ZB) (hI : CI Z) (h_tx : RC_tx Z)  : xA = xB ∧ RC_tx ZB := by
  have fm := kp_cls hkA (by rfl)
  have fc := kp_mod hkB (by rfl)
  have m := congrFun (fm 100 (by decide) (by decide)) 5
  have c := congrFun (fc 6 (by decide)) 1
  obtain ⟨p1, p2, -⟩ := pA
  obtain ⟨q1, q2, -⟩ := pB
  unfold RC_tx at *
  obtain ⟨hl, hb⟩ := h_tx
  exact ⟨by omega, by omega, fun k hk => by exfalso; omega⟩
theorem cu_fault {Z ZA ZB : ZT} { xA xB : Int} (pA : (∃ m : Nat, RDR (bC Z) (Z 6 1) m xA ∧ (xA = -4 → RDL (bC Z) ZA m)) ∧ True) (pB : (E1 ZB) ∧ (∃ m : Nat, RDR (mB ZA) (ZA 100 5) m xB ∧ (xB = -4 → RDM (mB ZA) ZB m)) ∧ (LOW ZA ZB) ∧ True) (hkA : kp ([4006, 5006, 6006, 8, 9, 10, 11, 12, 13, 14, 15, 16, 17]) Z ZA) (hkB : kp ([33100, 34100, 35100, 9100, 103, 104, 105, 106, 107, 108, 109, 110, 111]) ZA ZB) (hI : CI Z) (h_tx : RC_tx Z)  : xA = xB := by
  have fm := kp_cls hkA (by rfl)
  have fc := kp_mod hkB (by rfl)
  have e := tx_b h_tx (fm 102 (by decide) (by decide)) (congrFun (fm 100 (by decide) (by decide)) 5)
  have m5 := congrFun (fm 100 (by decide) (by decide)) 5
  obtain ⟨m, h1, -⟩ := pA.1
  obtain ⟨m', h2, -⟩ := pB.2.1
  rw [e, m5, ← h_tx.1] at h2
  exact (RDR_u h1 h2).2
theorem cu_fault_pn {Z ZA ZB : ZT} { xA xB : Int} (pA : (∃ m : Nat, RDR (bC Z) (Z 6 1) m xA ∧ (xA = -4 → RDL (bC Z) ZA m)) ∧ True) (pB : (E1 ZB) ∧ (∃ m : Nat, RDR (mB ZA) (ZA 100 5) m xB ∧ (xB = -4 → RDM (mB ZA) ZB m)) ∧ (LOW ZA ZB) ∧ True) (hkA : kp ([4006, 5006, 6006, 8, 9, 10, 11, 12, 13, 14, 15, 16, 17]) Z ZA) (hkB : kp ([33100, 34100, 35100, 9100, 103, 104, 105, 106, 107, 108, 109, 110, 111]) ZA ZB) (hI : CI Z) (h_pn : RC_pn Z)  : RC_pn ZB := by
  have fm := kp_cls hkA (by rfl)
  have fc := kp_mod hkB (by rfl)
  have m7 : ZB 100 7 = ZA 100 7 := kpF 100 7 hkB (by rfl)
  unfold RC_pn at h_pn ⊢
  exact PN_fault h_pn (fun o h1 h2 => kp_out (lo := 19) (hi := 28) hkA (by rfl) (by decide) o h1 h2) fm fc m7 pB.2.2.1
theorem cu_plan_pn {Z ZA ZB : ZT} { xA xB : Int} (pA : (∃ (m : Nat) (x0 : Int) (Zr : ZT), RDR (bC Z) (Z 6 1) m x0 ∧ (x0 ≠ -4 ∧ xA = -2 ∧ (∀ o, 19 ≤ o → o ≤ 28 → ZA o = Z o) ∨ x0 = -4 ∧ xA = m ∧ RDL (bC Z) Zr m ∧ TKP ZA Zr 19 8)) ∧ True) (pB : (E1 ZB) ∧ (∃ (m : Nat) (x0 : Int), RDR (mB ZA) (ZA 100 5) m x0 ∧ (x0 ≠ -4 ∧ xB = -2 ∧ LOW ZA ZB ∧ ZB 100 7 = ZA 100 7 ∨ x0 = -4 ∧ xB = m ∧ PLI (mB ZA) (ZA 100 5) ZB 4 80)) ∧ True) (hkA : kp ([4006, 5006, 6006, 8, 9, 10, 11, 12, 13, 14, 15, 16, 17, 19, 20, 21, 22, 23, 24, 25, 26, 27, 28, 70, 72, 74, 76, 78]) Z ZA) (hkB : kp ([33100, 34100, 35100, 9100, 103, 104, 105, 106, 107, 108, 109, 110, 111, 8100]) ZA ZB) (hI : CI Z) (h_pn : RC_pn Z) (h_tx : RC_tx Z) (hIA : CI ZA) : xA = xB ∧ RC_pn ZB := by
  have fm := kp_cls hkA (by rfl)
  have fc := kp_mod hkB (by rfl)
  have e := tx_b h_tx (fm 102 (by decide) (by decide)) (congrFun (fm 100 (by decide) (by decide)) 5)
  have m5 := congrFun (fm 100 (by decide) (by decide)) 5
  have hu := (hIA 19 1 0 80 rfl).2
  obtain ⟨m, x0, Zr, h1, h1'⟩ := pA.1
  obtain ⟨m', x0', h2, h2'⟩ := pB.2.1
  rw [e, m5, ← h_tx.1] at h2 h2'
  have q := RDR_u h1 h2
  unfold RC_pn at h_pn ⊢
  rcases h1' with ⟨a1, a2, a3⟩ | ⟨a1, a2, a3, a4⟩ <;> rcases h2' with ⟨b1, b2, b3, b4⟩ | ⟨b1, b2, b3⟩
  · exact ⟨by omega, PN_fault h_pn a3 fm fc b4 b3⟩
  · exfalso
    omega
  · exfalso
    omega
  · subst a1
    exact ⟨by omega, PN_plan h1 a3 a4 hu b3 fc⟩
theorem cu_keep_pn {Z ZA ZB : ZT} { xA xB : Int} (pA : (xA = -3 ∧ Z 1 5 = 2 ∧ ZA 1 5 = 2 ∨ xA = Z 1 5 + 1 ∧ Z 1 5 ≤ 1 ∧ ZA 1 5 = Z 1 5 + 1) ∧ (Z 1 5 = 0 → SCP ZA Z 36 18 ∧ UNC ZA Z 53 69) ∧ (Z 1 5 = 1 → SCP ZA Z 53 18 ∧ UNC ZA Z 36 52) ∧ (Z 1 5 = 2 → UNC ZA Z 36 52 ∧ UNC ZA Z 53 69) ∧ True) (pB : (KB ZB) ∧ (E1 ZB) ∧ (KE ZB) ∧ (xB = -3 ∧ ZA 100 30 = 2 ∧ ZB 100 30 = 2 ∨ xB = ZA 100 30 + 1 ∧ ZA 100 30 ≤ 1 ∧ ZB 100 30 = ZA 100 30 + 1) ∧ (∀ o : Nat, o ≠ 121 → o ≠ 100 → ZB o = ZA o) ∧ (∀ q : Nat, q ≠ 30 → ZB 100 q = ZA 100 q) ∧ (ZA 100 30 = 2 → ZB 121 = ZA 121) ∧ (ZA 100 30 ≤ 1 → OS ZA ZB (ZA 100 30) ∧ AL (KWP ZA ZB (ZA 100 30)) (fun _ => True)) ∧ True) (hkA : kp ([1, 36, 37, 38, 39, 40, 41, 42, 43, 44, 45, 46, 47, 48, 49, 50, 51, 52, 53, 54, 55, 56, 57, 58, 59, 60, 61, 62, 63, 64, 65, 66, 67, 68, 69]) Z ZA) (hkB : kp ([8100, 3100, 20100, 101, 103, 104, 105, 106, 107, 108, 109, 110, 111, 112, 113, 114, 115, 116, 121, 31100]) ZA ZB) (hI : CI Z) (h_stG : RC_stG Z) (h_pn : RC_pn Z) (h_sp : RC_sp Z)  : xA = xB ∧ RC_stG ZB ∧ RC_pn ZB ∧ RC_sp ZB := by
  have fm := kp_cls hkA (by rfl)
  have fc := kp_mod hkB (by rfl)
  have c5 := congrFun (fc 1 (by decide)) 5
  have m30 := congrFun (fm 100 (by decide) (by decide)) 30
  obtain ⟨pa, p0, p1, p2, -⟩ := pA
  obtain ⟨-, -, -, pb, q1, q2, q3, q4, -⟩ := pB
  have hst : ZA 100 30 = Z 1 5 := by unfold RC_stG at h_stG; omega
  have h01 := hI 1 5 0 2 rfl
  have hn : RC_pn ZB := by
    unfold RC_pn at h_pn ⊢
    exact PNR_f (PNR_o (fun o h1 h2 => (fc o (by omega)).trans (kp_out (lo := 19) (hi := 28) hkA (by rfl) (by decide) o (by omega) (by omega))) h_pn) (KF_low ((q2 7 (by decide)).trans (congrFun (fm 100 (by decide) (by decide)) 7)) (LOW_o (fun o h1 h2 => (q1 o (by omega) (by omega)).trans (fm o (by omega) (by omega)))))
  have g : xA = xB ∧ ZB 1 5 = ZB 100 30 := by rcases pa with ⟨a, b, d⟩ | ⟨a, b, d⟩ <;> rcases pb with ⟨e, f, g⟩ | ⟨e, f, g⟩ <;> omega
  refine ⟨g.1, g.2, hn, ?_⟩
  unfold RC_pn at h_pn
  unfold RC_sp at h_sp ⊢
  have f1 := fm 121 (by decide) (by decide)
  have hcase : Z 1 5 = 2 ∧ ZB 1 5 = 2 ∨ Z 1 5 = 0 ∧ ZB 1 5 = 1 ∨ Z 1 5 = 1 ∧ ZB 1 5 = 2 := by
    rcases pa with ⟨a, b, d⟩ | ⟨a, b, d⟩ <;> omega
  rcases hcase with ⟨h5, h6⟩ | ⟨h5, h6⟩ | ⟨h5, h6⟩
  · have e121 := (q3 (by omega)).trans f1
    exact ⟨fun _ => SP_o (fun o h1 h2 => (fc o (by omega)).trans ((p2 h5).1 o (by omega) (by omega))) (fun i _ _ => by rw [e121]) (h_sp.1 (by omega)), fun _ => SP_o (fun o h1 h2 => (fc o (by omega)).trans ((p2 h5).2 o (by omega) (by omega))) (fun i _ _ => by rw [e121]) (h_sp.2 (by omega))⟩
  · have kw := (q4 (by omega)).2
    have z : ZA 100 30 = 0 := by omega
    rw [z] at kw
    exact ⟨fun _ => SP_new (by decide) (p0 h5).1.2.2.2.2.2.2.2.2 h_pn kw fm fc, fun h => by omega⟩
  · have kw := (q4 (by omega)).2
    have os := (q4 (by omega)).1
    have z : ZA 100 30 = 1 := by omega
    rw [z] at kw os
    exact ⟨fun _ => SP_o (fun o h1 h2 => (fc o (by omega)).trans ((p1 h5).2 o (by omega) (by omega))) (fun i i0 i1 => (os 0 (by decide) (by decide) (by decide) i i0 i1).trans (congrFun f1 _)) (h_sp.1 (by omega)), fun _ => SP_new (by decide) (p1 h5).1.2.2.2.2.2.2.2.2 h_pn kw fm fc⟩
theorem cu_back_pn {Z ZA ZB : ZT} { xA xB : Int} (pA : (ZA 2 0 = Z 2 0) ∧ (ZA 2 1 = Z 2 1) ∧ (ZA 2 2 = Z 2 2 ∨ ZA 2 2 = Z 2 0 * Z 2 1) ∧ (xA = -2 ∧ Z 1 5 = 0 ∧ ZA 1 5 = 0 ∨ xA = Z 1 5 - 1 ∧ 1 ≤ Z 1 5 ∧ ZA 1 5 = Z 1 5 - 1) ∧ (Z 1 5 = 1 → SCP ZA Z 18 36) ∧ (Z 1 5 = 2 → SCP ZA Z 18 53) ∧ (Z 1 5 = 0 → UNC ZA Z 18 34) ∧ True) (pB : (KB ZB) ∧ (E1 ZB) ∧ (KE ZB) ∧ (xB = -2 ∧ ZA 100 30 = 0 ∧ ZB 100 30 = 0 ∨ xB = ZA 100 30 - 1 ∧ 1 ≤ ZA 100 30 ∧ ZB 100 30 = ZA 100 30 - 1) ∧ (ZB 121 = ZA 121) ∧ (ZA 100 30 = 0 → ∀ o : Nat, ZB o = ZA o) ∧ (1 ≤ ZA 100 30 → AL (BWP ZA ZB (ZA 100 30 - 1)) (fun _ => True)) ∧ True) (hkA : kp ([1, 2, 3, 18, 19, 20, 21, 22, 23, 24, 25, 26, 27, 28, 29, 30, 31, 32, 33, 34, 70, 72, 74, 76, 78, 88, 91, 93]) Z ZA) (hkB : kp ([8100, 3100, 20100, 101, 103, 104, 105, 106, 107, 108, 109, 110, 111, 112, 113, 114, 115, 116, 121, 31100]) ZA ZB) (hI : CI Z) (h_stG : RC_stG Z) (h_pn : RC_pn Z) (h_sp : RC_sp Z)  : xA = xB ∧ RC_stG ZB ∧ RC_pn ZB ∧ RC_sp ZB := by
  have fm := kp_cls hkA (by rfl)
  have fc := kp_mod hkB (by rfl)
  have c5 := congrFun (fc 1 (by decide)) 5
  have m30 := congrFun (fm 100 (by decide) (by decide)) 30
  obtain ⟨-, -, -, pa, p1, p2, p0, -⟩ := pA
  obtain ⟨-, -, -, pb, q0, q1, q2, -⟩ := pB
  have hst : ZA 100 30 = Z 1 5 := by unfold RC_stG at h_stG; omega
  have h01 := hI 1 5 0 2 rfl
  have f1 := fm 121 (by decide) (by decide)
  have g : xA = xB ∧ ZB 1 5 = ZB 100 30 := by rcases pa with ⟨a, b, d⟩ | ⟨a, b, d⟩ <;> rcases pb with ⟨e, f, g⟩ | ⟨e, f, g⟩ <;> omega
  have hle : ZB 1 5 ≤ Z 1 5 := by rcases pa with ⟨a, b, d⟩ | ⟨a, b, d⟩ <;> omega
  refine ⟨g.1, g.2, ?_, (sp_less hle (fun o h1 h2 => (fc o (by omega)).trans (kp_out (lo := 36) (hi := 69) hkA (by rfl) (by decide) o h1 h2)) (q0.trans f1) h_sp)⟩
  unfold RC_pn at h_pn ⊢
  unfold RC_sp at h_sp
  have hcase : Z 1 5 = 0 ∨ Z 1 5 = 1 ∨ Z 1 5 = 2 := by omega
  rcases hcase with h5 | h5 | h5
  · have u := p0 h5
    have w := q1 (by omega)
    exact PNR_f (PNR_o (fun o h1 h2 => (fc o (by omega)).trans (u o (by omega) (by omega))) h_pn) (KF_low ((congrFun (w 100) 7).trans (congrFun (fm 100 (by decide) (by decide)) 7)) (LOW_o (fun o h1 h2 => (w o).trans (fm o (by omega) (by omega)))))
  · have bw := q2 (by omega)
    have z : ZA 100 30 - 1 = 0 := by omega
    rw [z] at bw
    exact SP_back (p1 h5).2.2.2.2.2.2.2.2 (h_sp.1 (by omega)) bw f1 fc
  · have bw := q2 (by omega)
    have z : ZA 100 30 - 1 = 1 := by omega
    rw [z] at bw
    exact SP_back (p2 h5).2.2.2.2.2.2.2.2 (h_sp.2 (by omega)) bw f1 fc
theorem cu_sky_sp {Z ZA ZB : ZT} { a1 a2 xA xB : Int} (pA : (xA = -1 ∧ ¬(2 ≤ a1 ∧ a1 ≤ 6 ∧ 2 ≤ a2 ∧ a2 ≤ 6) ∧ (ZA 2 0 = Z 2 0 ∧ ZA 2 1 = Z 2 1 ∧ ZA 2 2 = Z 2 2 ∧ ZA 1 5 = Z 1 5 ∧ ZA 18 4 = Z 18 4) ∧ (ZA 29 = Z 29 ∧ ZA 89 = Z 89) ∧ (ZA 81 = Z 81 ∧ ZA 82 = Z 82) ∨ xA = a1 * a2 ∧ (2 ≤ a1 ∧ a1 ≤ 6 ∧ 2 ≤ a2 ∧ a2 ≤ 6) ∧ (ZA 2 0 = a1 ∧ ZA 2 1 = a2 ∧ ZA 2 2 = a1 * a2 ∧ ZA 1 5 = 0 ∧ ZA 18 4 = 0) ∧ (FL ZA 29 2000000 144 ∧ FL ZA 89 0 36) ∧ (FL ZA 81 2000000000000 6 ∧ FL ZA 82 2000000000000 6)) ∧ (ZA 18 3 = Z 18 3) ∧ True) (pB : (xB = -1 ∧ ¬(2 ≤ a1 ∧ a1 ≤ 6 ∧ 2 ≤ a2 ∧ a2 ≤ 6) ∧ (ZB 100 0 = ZA 100 0 ∧ ZB 100 1 = ZA 100 1 ∧ ZB 100 30 = ZA 100 30 ∧ ZB 100 19 = ZA 100 19) ∧ (ZB 112 = ZA 112 ∧ ZB 120 = ZA 120) ∧ ZB 117 = ZA 117 ∨ xB = a1 * a2 ∧ (2 ≤ a1 ∧ a1 ≤ 6 ∧ 2 ≤ a2 ∧ a2 ≤ 6) ∧ (ZB 100 0 = a1 ∧ ZB 100 1 = a2 ∧ ZB 100 30 = 0 ∧ ZB 100 19 = 0) ∧ (FL ZB 112 2000000 144 ∧ FL ZB 120 0 36) ∧ FL ZB 117 2000000000000 12) ∧ (ZB 100 30 = ZA 100 30 ∨ ZB 100 30 = 0) ∧ True) (hkA : kp ([1, 2, 3, 18, 29, 70, 72, 74, 76, 78, 81, 82, 88, 89, 91, 93]) Z ZA) (hkB : kp ([112, 117, 120, 1100, 2100, 20100, 31100]) ZA ZB) (hI : CI Z) (h_sp : RC_sp Z)  : RC_sp ZB := by
  have fm := kp_cls hkA (by rfl)
  have fc := kp_mod hkB (by rfl)
  have c5 := congrFun (fc 1 (by decide)) 5
  have h01 := hI 1 5 0 2 rfl
  have g : ZB 1 5 ≤ Z 1 5 := by
    rcases pA.1 with ⟨a, b, ⟨-, -, -, d, -⟩, -⟩ | ⟨a, b, ⟨-, -, -, d, -⟩, -⟩ <;> omega
  exact (sp_less g (fun o h1 h2 => (fc o (by omega)).trans (kp_out (lo := 36) (hi := 69) hkA (by rfl) (by decide) o h1 h2)) ((kp_av (o := 121) hkB (by rfl) (by decide)).trans (fm 121 (by decide) (by decide))) h_sp)
theorem NEW_w {Z : ZT} {N : Nat} (hN : (N : Int) = Z 100 0 * Z 100 1) (hI : CI Z) (hn : NWM Z) : NEW (envW Z) N := by
  have w := hI 100 0 2 6 rfl
  have w' := hI 100 1 2 6 rfl
  refine ⟨fun c s hc hs => ?_, fun l t hl h0 h3 h4 => ?_⟩
  · show nx (Z 100 0) (Z 100 1) (Z 100 2) c s < N
    rw [hN]
    exact nx_lt ⟨by omega, w.2⟩ ⟨by omega, w'.2⟩ (by omega) hs
  · have q := hn l t hl h0 h3 h4
    have m1 := hI 110 t 0 23 rfl
    have m2 := hI 111 t (-1) 23 rfl
    exact ⟨⟨m1.1, m1.2, q.1⟩, m2.1, m2.2, q.2⟩
def ALK (Z ZA : ZT) : Prop := ENQ (envN Z 2) (envW ZA) (Z 2 2).toNat ∧ NEW (envN Z 2) (Z 2 2).toNat ∧ NEW (envW ZA) (Z 2 2).toNat ∧ (∀ l : Nat, l < 4 → 0 ≤ (envN Z 2).pl l → 0 ≤ (envN Z 2).tf l ∧ 0 ≤ (envN Z 2).tm l) ∧ (∀ l : Nat, l < 4 → 0 ≤ (envW ZA).pl l → 0 ≤ (envW ZA).tf l ∧ 0 ≤ (envW ZA).tm l) ∧ (∀ (r : Int) (s c l : Nat) (v : Int), (if r = 0 then slC Z (-1) else fun _ _ _ v => v) s c l v = (if r = 0 then slA_ ZA else fun _ _ _ v => v) s c l v) ∧ (∀ c l : Nat, c < (Z 2 2).toNat → l < 4 → FZ0 Z 70 2 (4 * c + l) = FW ZA (4 * c + l)) ∧ ZA 100 0 * ZA 100 1 = Z 2 2
theorem al_of {Z ZA : ZT} (h_dm : RC_dm Z) (h_sn : RC_sn Z) (h_pn : RC_pn Z) (h_nr : RC_nr Z) (h_rf : RC_rf Z) (hI : CI Z) (hE : E1 Z) (fm : ∀ o, 100 ≤ o → o ≤ 130 → ZA o = Z o) : ALK Z ZA := by
  have m := fm 100 (by decide) (by decide)
  have hc := hI 2 2 4 36 rfl
  have q19 := hI 100 19 0 12 rfl
  unfold RC_dm at h_dm
  unfold RC_sn at h_sn
  unfold RC_pn at h_pn
  unfold RC_rf at h_rf
  have hnr : NRC Z := h_nr
  obtain ⟨⟨s3, s4⟩, t30, t29, t31, t32, t33, t34⟩ := h_sn
  have ed : ZA 100 0 * ZA 100 1 = Z 2 2 := by rw [m, h_dm.2, h_dm.1.1, h_dm.1.2]
  have hq : ENQ (envN Z 2) (envW ZA) (Z 2 2).toNat := EN_of hnr.1 (by omega) (by rw [m]; exact h_dm.1.1) (by rw [m]; exact h_dm.1.2) (by rw [m]; exact s3) (fun l hl => by rw [fm 101 (by decide) (by decide)]; exact t30 l hl) h_pn (fun o h1 h2 => fm o (by omega) (by omega))
  have hplw := PN_plw h_pn hE h_rf.1
  have w : NEW (envN Z 2) (Z 2 2).toNat := NEW_c (NRC_nrw hnr.1 hnr.2 hI) (by omega) (PN_nwc h_pn hI) hplw
  have wt : ∀ l : Nat, l < 4 → 0 ≤ (envN Z 2).pl l → 0 ≤ (envN Z 2).tf l ∧ 0 ≤ (envN Z 2).tm l := fun l hl hp => ⟨(hplw.1 l hl hp).1.1, (hplw.1 l hl hp).1.2.1⟩
  have w' : NEW (envW ZA) (Z 2 2).toNat := by
    have g := w
    refine ⟨fun c s hc hs => ?_, fun l t hl h0 h3 h4 => ?_⟩
    · rw [← hq.1 c s hc hs]
      exact g.1 c s hc hs
    · rcases hq.2.2 l hl with e | ⟨⟨e0, e1⟩, ⟨e2, e3, -, -⟩, -, e4⟩
      · omega
      · have k := e4 t (by omega) (by omega)
        have u := g.2 l t hl e0 (by omega) (by omega)
        have back : ∀ a : Int, a ≤ 23 → (20 ≤ a → 0 ≤ (envN Z 2).pl (a - 20).toNat ∧ (envN Z 2).pl (a - 20).toNat < (envN Z 2).pl l) → 20 ≤ a → 0 ≤ (envW ZA).pl (a - 20).toNat ∧ (envW ZA).pl (a - 20).toNat < (envW ZA).pl l := fun a a1 a2 a3 => by
          have a4 := a2 a3
          rcases hq.2.2 (a - 20).toNat (by omega) with e | ⟨⟨f0, f1⟩, -⟩
          · omega
          · rw [f1, e1]
            exact a4
        rw [k.2.1, k.2.2]
        exact ⟨⟨u.1.1, u.1.2.1, back _ u.1.2.1 u.1.2.2⟩, u.2.1, u.2.2.1, back _ u.2.2.1 u.2.2.2⟩
  have wt' : ∀ l : Nat, l < 4 → 0 ≤ (envW ZA).pl l → 0 ≤ (envW ZA).tf l ∧ 0 ≤ (envW ZA).tm l := fun l hl hp => by
    rcases hq.2.2 l hl with e | ⟨⟨e0, e1⟩, ⟨e2, e3, -, -⟩, -⟩
    · omega
    · have k := wt l hl e0
      omega
  refine ⟨hq, w, w', wt, wt', fun r s c l v => ?_, fun c l hc hl => ?_, ed⟩
  · by_cases hr : r = 0
    · rw [if_pos hr, if_pos hr]
      unfold slC slA_
      rw [m, ← s4]
      rw [fm 113 (by decide) (by decide), fm 114 (by decide) (by decide), fm 115 (by decide) (by decide), fm 116 (by decide) (by decide)]
      exact slF_eq _ (fun k hk => ⟨rfl, t31 k (by omega), t32 k (by omega), t33 k (by omega), t34 k (by omega)⟩)
    · rw [if_neg hr, if_neg hr]
  · rw [FZ0_at (by decide) hl, FW_at hl]
    refine (fiV_e hq w hc hl (fun c l hc hl => ?_)).symm
    rw [fm 112 (by decide) (by decide)]
    exact t29 (4 * c + l) (by omega)
theorem nbs_of {Z : ZT} (h_sn : RC_sn Z) (h_pn : RC_pn Z) (h_nr : RC_nr Z) (h_rv : RC_rv Z) (h_rf : RC_rf Z) (hI : CI Z) (hE : E1 Z) : NBS Z := by
  have hnr : NRC Z := h_nr
  have q := hI 100 19 0 12 rfl
  unfold RC_pn at h_pn
  unfold RC_rf at h_rf
  unfold RC_sn at h_sn
  exact ⟨h_rv.1, NRC_nrw hnr.1 hnr.2 hI, PN_plw h_pn hE h_rf.1, PN_nwc h_pn hI, h_pn.2.2.2.1, by omega⟩
theorem frm_of {Z : ZT} (h_sn : RC_sn Z) (h_rv : RC_rv Z) : FRM Z := by
  unfold RC_sn at h_sn
  obtain ⟨-, t30, t29, -⟩ := h_sn
  refine ⟨fun k hk => ?_, fun l hl => ?_⟩
  · rw [← t29 k hk]
    exact h_rv.1.1 k hk
  · rw [← t30 l hl]
    exact h_rv.1.2 l hl
/-- two rows of what both sides make -/
theorem rw_al {Z ZA : ZT} {r d : Int} {R R' : Nat → Int} (h : ALK Z ZA) (hc : RWC Z r d R) (hm : RWM ZA r R') (hd : 0 ≤ d ∧ d ≤ 12) {s c l : Nat} (h1 : (s : Int) ≤ d) (hcc : (c : Int) < Z 2 2) (hl : l < 4) : R (144 * s + 4 * c + l) = R' (144 * s + 4 * c + l) := by
  obtain ⟨q, w, w', wt, wt', hs, hF, ed⟩ := h
  unfold RWM at hm
  rw [ed] at hm
  exact rows_u hc hm q w w' wt wt' (hs r) hF (by omega) (by omega) (by omega) hl
theorem cu_sky_rv {Z ZA : ZT} { a1 a2 xA : Int} (pA : (xA = -1 ∧ ¬(2 ≤ a1 ∧ a1 ≤ 6 ∧ 2 ≤ a2 ∧ a2 ≤ 6) ∧ (ZA 2 0 = Z 2 0 ∧ ZA 2 1 = Z 2 1 ∧ ZA 2 2 = Z 2 2 ∧ ZA 1 5 = Z 1 5 ∧ ZA 18 4 = Z 18 4) ∧ (ZA 29 = Z 29 ∧ ZA 89 = Z 89) ∧ (ZA 81 = Z 81 ∧ ZA 82 = Z 82) ∨ xA = a1 * a2 ∧ (2 ≤ a1 ∧ a1 ≤ 6 ∧ 2 ≤ a2 ∧ a2 ≤ 6) ∧ (ZA 2 0 = a1 ∧ ZA 2 1 = a2 ∧ ZA 2 2 = a1 * a2 ∧ ZA 1 5 = 0 ∧ ZA 18 4 = 0) ∧ (FL ZA 29 2000000 144 ∧ FL ZA 89 0 36) ∧ (FL ZA 81 2000000000000 6 ∧ FL ZA 82 2000000000000 6)) ∧ (ZA 18 3 = Z 18 3) ∧ (NBB ZA) ∧ (NRC ZA) ∧ True) (hkA : kp ([1, 2, 3, 18, 29, 5070, 5072, 5074, 5076, 78, 81, 82, 88, 89, 91, 93]) Z ZA) (hI : CI Z) (h_rv : RC_rv Z)  : RC_rv ZA := by
  have k30 := kp_av (o := 30) hkA (by rfl) (by decide)
  have k47 := kp_av (o := 47) hkA (by rfl) (by decide)
  have k48 := kp_av (o := 48) hkA (by rfl) (by decide)
  have k64 := kp_av (o := 64) hkA (by rfl) (by decide)
  have k65 := kp_av (o := 65) hkA (by rfl) (by decide)
  unfold RC_rv at h_rv ⊢
  rcases pA.1 with ⟨a, b, ⟨-, -, -, d, -⟩, ⟨e29, -⟩, -⟩ | ⟨a, b, ⟨-, -, -, d, -⟩, ⟨e29, -⟩, -⟩
  · exact ⟨FRS_o e29 k30 h_rv.1, fun g => FRS_o k47 k48 (h_rv.2.1 (by omega)), fun g => FRS_o k64 k65 (h_rv.2.2 (by omega))⟩
  · refine ⟨⟨fun k hk => by rw [e29 k (by omega)]; decide, fun l hl => ?_⟩, fun g => by omega, fun g => by omega⟩
    show -2000000 ≤ ZA 30 l ∧ ZA 30 l ≤ 2000000
    rw [k30]
    exact h_rv.1.2 l hl
theorem cu_rim_rv {Z ZA : ZT} { a1 a2 xA : Int} (pA : (xA = -2000000 ∧ ¬(0 ≤ a1 ∧ a1 ≤ 3 ∧ -1000000 ≤ a2 ∧ a2 ≤ 1000000) ∧ ZA 30 = Z 30 ∨ xA = Z 30 a1.toNat ∧ (0 ≤ a1 ∧ a1 ≤ 3 ∧ -1000000 ≤ a2 ∧ a2 ≤ 1000000) ∧ ZA 30 = upZ Z 30 a1.toNat a2 30) ∧ (NBB ZA) ∧ True) (hkA : kp ([30, 5070, 5072, 5074, 5076, 78]) Z ZA) (hI : CI Z) (h_rv : RC_rv Z)  : RC_rv ZA := by
  have k29 := kp_av (o := 29) hkA (by rfl) (by decide)
  have k47 := kp_av (o := 47) hkA (by rfl) (by decide)
  have k48 := kp_av (o := 48) hkA (by rfl) (by decide)
  have k64 := kp_av (o := 64) hkA (by rfl) (by decide)
  have k65 := kp_av (o := 65) hkA (by rfl) (by decide)
  have e5 : ZA 1 5 = Z 1 5 := kpF 1 5 hkA (by rfl)
  unfold RC_rv at h_rv ⊢
  rcases pA.1 with ⟨-, -, e⟩ | ⟨-, c, e⟩
  · exact ⟨FRS_o k29 e h_rv.1, fun g => FRS_o k47 k48 (h_rv.2.1 (by omega)), fun g => FRS_o k64 k65 (h_rv.2.2 (by omega))⟩
  · refine ⟨⟨fun k hk => by rw [k29]; exact h_rv.1.1 k hk, fun l hl => ?_⟩, fun g => FRS_o k47 k48 (h_rv.2.1 (by omega)), fun g => FRS_o k64 k65 (h_rv.2.2 (by omega))⟩
    show -2000000 ≤ ZA 30 l ∧ ZA 30 l ≤ 2000000
    rw [e]
    by_cases hq : l = a1.toNat
    · rw [hq, up_eq]
      omega
    · rw [up_nk hq]
      exact h_rv.1.2 l hl
theorem cu_first_rv {Z ZA : ZT} { a1 a2 a3 xA : Int} (pA : (xA = -2000000 ∧ ¬((0 ≤ a1 ∧ a1 < Z 2 2 ∧ a1 < 36) ∧ (0 ≤ a2 ∧ a2 ≤ 3) ∧ (a3 = 2000000 ∨ -1000000 ≤ a3 ∧ a3 ≤ 1000000)) ∧ ZA 29 = Z 29 ∨ xA = Z 29 (4 * a1 + a2).toNat ∧ ((0 ≤ a1 ∧ a1 < Z 2 2 ∧ a1 < 36) ∧ (0 ≤ a2 ∧ a2 ≤ 3) ∧ (a3 = 2000000 ∨ -1000000 ≤ a3 ∧ a3 ≤ 1000000)) ∧ ZA 29 = upZ Z 29 (4 * a1 + a2).toNat a3 29) ∧ (NBB ZA) ∧ True) (hkA : kp ([29, 5070, 5072, 5074, 5076, 78]) Z ZA) (hI : CI Z) (h_rv : RC_rv Z)  : RC_rv ZA := by
  have k30 := kp_av (o := 30) hkA (by rfl) (by decide)
  have k47 := kp_av (o := 47) hkA (by rfl) (by decide)
  have k48 := kp_av (o := 48) hkA (by rfl) (by decide)
  have k64 := kp_av (o := 64) hkA (by rfl) (by decide)
  have k65 := kp_av (o := 65) hkA (by rfl) (by decide)
  have e5 : ZA 1 5 = Z 1 5 := kpF 1 5 hkA (by rfl)
  unfold RC_rv at h_rv ⊢
  rcases pA.1 with ⟨-, -, e⟩ | ⟨-, c, e⟩
  · exact ⟨FRS_o e k30 h_rv.1, fun g => FRS_o k47 k48 (h_rv.2.1 (by omega)), fun g => FRS_o k64 k65 (h_rv.2.2 (by omega))⟩
  · refine ⟨⟨fun k hk => ?_, fun l hl => ?_⟩, fun g => FRS_o k47 k48 (h_rv.2.1 (by omega)), fun g => FRS_o k64 k65 (h_rv.2.2 (by omega))⟩
    · rw [e]
      by_cases hq : k = (4 * a1 + a2).toNat
      · rw [hq, up_eq]
        omega
      · rw [up_nk hq]
        exact h_rv.1.1 k hk
    · show -2000000 ≤ ZA 30 l ∧ ZA 30 l ≤ 2000000
      rw [k30]
      exact h_rv.1.2 l hl
theorem cu_keep_rv {Z ZA : ZT} { xA : Int} (pA : (xA = -3 ∧ Z 1 5 = 2 ∧ ZA 1 5 = 2 ∨ xA = Z 1 5 + 1 ∧ Z 1 5 ≤ 1 ∧ ZA 1 5 = Z 1 5 + 1) ∧ (Z 1 5 = 0 → SCP ZA Z 36 18 ∧ UNC ZA Z 53 69) ∧ (Z 1 5 = 1 → SCP ZA Z 53 18 ∧ UNC ZA Z 36 52) ∧ (Z 1 5 = 2 → UNC ZA Z 36 52 ∧ UNC ZA Z 53 69) ∧ True) (hkA : kp ([1, 36, 37, 38, 39, 40, 41, 42, 43, 44, 45, 46, 47, 48, 49, 50, 51, 52, 53, 54, 55, 56, 57, 58, 59, 60, 61, 62, 63, 64, 65, 66, 67, 68, 69]) Z ZA) (hI : CI Z) (h_rv : RC_rv Z)  : RC_rv ZA := by
  have k29 := kp_av (o := 29) hkA (by rfl) (by decide)
  have k30 := kp_av (o := 30) hkA (by rfl) (by decide)
  have h01 := hI 1 5 0 2 rfl
  obtain ⟨pa, p0, p1, p2, -⟩ := pA
  unfold RC_rv at h_rv ⊢
  have hcase : Z 1 5 = 2 ∧ ZA 1 5 = 2 ∨ Z 1 5 = 0 ∧ ZA 1 5 = 1 ∨ Z 1 5 = 1 ∧ ZA 1 5 = 2 := by
    rcases pa with ⟨a, b, d⟩ | ⟨a, b, d⟩ <;> omega
  refine ⟨FRS_o k29 k30 h_rv.1, ?_⟩
  rcases hcase with ⟨h5, h6⟩ | ⟨h5, h6⟩ | ⟨h5, h6⟩
  · have u := p2 h5
    exact ⟨fun _ => FRS_o (u.1 47 (by decide) (by decide)) (u.1 48 (by decide) (by decide)) (h_rv.2.1 (by omega)), fun _ => FRS_o (u.2 64 (by decide) (by decide)) (u.2 65 (by decide) (by decide)) (h_rv.2.2 (by omega))⟩
  · have u := (p0 h5).1
    exact ⟨fun _ => FRS_c (d := 47) (s := 29) u.2.2.1 u.2.2.2.1 h_rv.1, fun g => by omega⟩
  · have u := p1 h5
    exact ⟨fun _ => FRS_o (u.2 47 (by decide) (by decide)) (u.2 48 (by decide) (by decide)) (h_rv.2.1 (by omega)), fun _ => FRS_c (d := 64) (s := 29) u.1.2.2.1 u.1.2.2.2.1 h_rv.1⟩
theorem cu_back_rv {Z ZA : ZT} { xA : Int} (pA : (ZA 2 0 = Z 2 0) ∧ (ZA 2 1 = Z 2 1) ∧ (ZA 2 2 = Z 2 2 ∨ ZA 2 2 = Z 2 0 * Z 2 1) ∧ (xA = -2 ∧ Z 1 5 = 0 ∧ ZA 1 5 = 0 ∨ xA = Z 1 5 - 1 ∧ 1 ≤ Z 1 5 ∧ ZA 1 5 = Z 1 5 - 1) ∧ (Z 1 5 = 1 → SCP ZA Z 18 36) ∧ (Z 1 5 = 2 → SCP ZA Z 18 53) ∧ (Z 1 5 = 0 → UNC ZA Z 18 34) ∧ (NBB ZA) ∧ (NRC ZA) ∧ True) (hkA : kp ([1, 2, 3, 18, 19, 20, 21, 22, 23, 24, 25, 26, 27, 28, 29, 30, 31, 32, 33, 34, 5070, 5072, 5074, 5076, 78, 88, 91, 93]) Z ZA) (hI : CI Z) (h_rv : RC_rv Z)  : RC_rv ZA := by
  have k47 := kp_av (o := 47) hkA (by rfl) (by decide)
  have k48 := kp_av (o := 48) hkA (by rfl) (by decide)
  have k64 := kp_av (o := 64) hkA (by rfl) (by decide)
  have k65 := kp_av (o := 65) hkA (by rfl) (by decide)
  have h01 := hI 1 5 0 2 rfl
  obtain ⟨-, -, -, pa, p1, p2, p0, -⟩ := pA
  unfold RC_rv at h_rv ⊢
  have hle : ZA 1 5 ≤ Z 1 5 := by
    rcases pa with ⟨a, b, d⟩ | ⟨a, b, d⟩ <;> omega
  refine ⟨?_, fun g => FRS_o k47 k48 (h_rv.2.1 (by omega)), fun g => FRS_o k64 k65 (h_rv.2.2 (by omega))⟩
  have hcase : Z 1 5 = 0 ∨ Z 1 5 = 1 ∨ Z 1 5 = 2 := by omega
  rcases hcase with h5 | h5 | h5
  · have u := p0 h5
    exact FRS_o (u 29 (by decide) (by decide)) (u 30 (by decide) (by decide)) h_rv.1
  · have u := p1 h5
    exact FRS_c (d := 29) (s := 47) u.2.2.1 u.2.2.2.1 (h_rv.2.1 (by omega))
  · have u := p2 h5
    exact FRS_c (d := 29) (s := 64) u.2.2.1 u.2.2.2.1 (h_rv.2.2 (by omega))
theorem cu_sky_rf {Z ZA : ZT} { a1 a2 xA : Int} (pA : (xA = -1 ∧ ¬(2 ≤ a1 ∧ a1 ≤ 6 ∧ 2 ≤ a2 ∧ a2 ≤ 6) ∧ (ZA 2 0 = Z 2 0 ∧ ZA 2 1 = Z 2 1 ∧ ZA 2 2 = Z 2 2 ∧ ZA 1 5 = Z 1 5 ∧ ZA 18 4 = Z 18 4) ∧ (ZA 29 = Z 29 ∧ ZA 89 = Z 89) ∧ (ZA 81 = Z 81 ∧ ZA 82 = Z 82) ∨ xA = a1 * a2 ∧ (2 ≤ a1 ∧ a1 ≤ 6 ∧ 2 ≤ a2 ∧ a2 ≤ 6) ∧ (ZA 2 0 = a1 ∧ ZA 2 1 = a2 ∧ ZA 2 2 = a1 * a2 ∧ ZA 1 5 = 0 ∧ ZA 18 4 = 0) ∧ (FL ZA 29 2000000 144 ∧ FL ZA 89 0 36) ∧ (FL ZA 81 2000000000000 6 ∧ FL ZA 82 2000000000000 6)) ∧ (ZA 18 3 = Z 18 3) ∧ (NBB ZA) ∧ (NRC ZA) ∧ True) (hkA : kp ([1, 2, 3, 18, 29, 5070, 5072, 5074, 5076, 78, 81, 82, 88, 89, 91, 93]) Z ZA) (hI : CI Z) (h_rf : RC_rf Z)  : RC_rf ZA := by
  have k26 := kp_av (o := 26) hkA (by rfl) (by decide)
  have k44 := kp_av (o := 44) hkA (by rfl) (by decide)
  have k61 := kp_av (o := 61) hkA (by rfl) (by decide)
  have f19 : ZA 19 1 = Z 19 1 := kpF 19 1 hkA (by rfl)
  have f37 : ZA 37 1 = Z 37 1 := kpF 37 1 hkA (by rfl)
  have f54 : ZA 54 1 = Z 54 1 := kpF 54 1 hkA (by rfl)
  unfold RC_rf at h_rf ⊢
  have hle : ZA 1 5 ≤ Z 1 5 := by
    have h01 := hI 1 5 0 2 rfl
    rcases pA.1 with ⟨a, b, ⟨-, -, -, d, -⟩, -⟩ | ⟨a, b, ⟨-, -, -, d, -⟩, -⟩ <;> omega
  exact ⟨RGF_o f19 k26 h_rf.1, fun g => RGF_o f37 k44 (h_rf.2.1 (by omega)), fun g => RGF_o f54 k61 (h_rf.2.2 (by omega))⟩
theorem cu_plan_rf {Z ZA : ZT} { xA : Int} (pA : (∃ (m : Nat) (x0 : Int) (Zr : ZT), RDR (bC Z) (Z 6 1) m x0 ∧ (x0 ≠ -4 ∧ xA = -2 ∧ (∀ o, 19 ≤ o → o ≤ 28 → ZA o = Z o) ∨ x0 = -4 ∧ xA = m ∧ RDL (bC Z) Zr m ∧ TKP ZA Zr 19 8)) ∧ (NBB ZA) ∧ True) (hkA : kp ([4006, 5006, 6006, 8, 9, 10, 11, 12, 13, 14, 15, 16, 17, 19, 20, 21, 22, 23, 24, 25, 26, 27, 28, 5070, 5072, 5074, 5076, 78]) Z ZA) (hI : CI Z) (h_rf : RC_rf Z)  : RC_rf ZA := by
  have k44 := kp_av (o := 44) hkA (by rfl) (by decide)
  have k61 := kp_av (o := 61) hkA (by rfl) (by decide)
  have f37 : ZA 37 1 = Z 37 1 := kpF 37 1 hkA (by rfl)
  have f54 : ZA 54 1 = Z 54 1 := kpF 54 1 hkA (by rfl)
  have e5 : ZA 1 5 = Z 1 5 := kpF 1 5 hkA (by rfl)
  unfold RC_rf at h_rf ⊢
  obtain ⟨m, x0, Zr, h1, h1'⟩ := pA.1
  refine ⟨?_, fun g => RGF_o f37 k44 (h_rf.2.1 (by omega)), fun g => RGF_o f54 k61 (h_rf.2.2 (by omega))⟩
  rcases h1' with ⟨a1, a2, a3⟩ | ⟨a1, a2, a3, a4⟩
  · exact RGF_o (congrFun (a3 19 (by decide) (by decide)) 1) (a3 26 (by decide) (by decide)) h_rf.1
  · exact RGF_c a4 (RD_FR h1 a3)
theorem cu_keep_rf {Z ZA : ZT} { xA : Int} (pA : (xA = -3 ∧ Z 1 5 = 2 ∧ ZA 1 5 = 2 ∨ xA = Z 1 5 + 1 ∧ Z 1 5 ≤ 1 ∧ ZA 1 5 = Z 1 5 + 1) ∧ (Z 1 5 = 0 → SCP ZA Z 36 18 ∧ UNC ZA Z 53 69) ∧ (Z 1 5 = 1 → SCP ZA Z 53 18 ∧ UNC ZA Z 36 52) ∧ (Z 1 5 = 2 → UNC ZA Z 36 52 ∧ UNC ZA Z 53 69) ∧ True) (hkA : kp ([1, 36, 37, 38, 39, 40, 41, 42, 43, 44, 45, 46, 47, 48, 49, 50, 51, 52, 53, 54, 55, 56, 57, 58, 59, 60, 61, 62, 63, 64, 65, 66, 67, 68, 69]) Z ZA) (hI : CI Z) (h_rf : RC_rf Z)  : RC_rf ZA := by
  have k26 := kp_av (o := 26) hkA (by rfl) (by decide)
  have f19 : ZA 19 1 = Z 19 1 := kpF 19 1 hkA (by rfl)
  have h01 := hI 1 5 0 2 rfl
  obtain ⟨pa, p0, p1, p2, -⟩ := pA
  unfold RC_rf at h_rf ⊢
  have hcase : Z 1 5 = 2 ∧ ZA 1 5 = 2 ∨ Z 1 5 = 0 ∧ ZA 1 5 = 1 ∨ Z 1 5 = 1 ∧ ZA 1 5 = 2 := by
    rcases pa with ⟨a, b, d⟩ | ⟨a, b, d⟩ <;> omega
  refine ⟨RGF_o f19 k26 h_rf.1, ?_⟩
  rcases hcase with ⟨h5, h6⟩ | ⟨h5, h6⟩ | ⟨h5, h6⟩
  · have u := p2 h5
    exact ⟨fun _ => RGF_o (congrFun (u.1 37 (by decide) (by decide)) 1) (u.1 44 (by decide) (by decide)) (h_rf.2.1 (by omega)), fun _ => RGF_o (congrFun (u.2 54 (by decide) (by decide)) 1) (u.2 61 (by decide) (by decide)) (h_rf.2.2 (by omega))⟩
  · have u := (p0 h5).1
    exact ⟨fun _ => RGF_c (d := 37) (s := 19) u.2.2.2.2.2.2.2.2 h_rf.1, fun g => by omega⟩
  · have u := p1 h5
    exact ⟨fun _ => RGF_o (congrFun (u.2 37 (by decide) (by decide)) 1) (u.2 44 (by decide) (by decide)) (h_rf.2.1 (by omega)), fun _ => RGF_c (d := 54) (s := 19) u.1.2.2.2.2.2.2.2.2 h_rf.1⟩
theorem cu_back_rf {Z ZA : ZT} { xA : Int} (pA : (ZA 2 0 = Z 2 0) ∧ (ZA 2 1 = Z 2 1) ∧ (ZA 2 2 = Z 2 2 ∨ ZA 2 2 = Z 2 0 * Z 2 1) ∧ (xA = -2 ∧ Z 1 5 = 0 ∧ ZA 1 5 = 0 ∨ xA = Z 1 5 - 1 ∧ 1 ≤ Z 1 5 ∧ ZA 1 5 = Z 1 5 - 1) ∧ (Z 1 5 = 1 → SCP ZA Z 18 36) ∧ (Z 1 5 = 2 → SCP ZA Z 18 53) ∧ (Z 1 5 = 0 → UNC ZA Z 18 34) ∧ (NBB ZA) ∧ (NRC ZA) ∧ True) (hkA : kp ([1, 2, 3, 18, 19, 20, 21, 22, 23, 24, 25, 26, 27, 28, 29, 30, 31, 32, 33, 34, 5070, 5072, 5074, 5076, 78, 88, 91, 93]) Z ZA) (hI : CI Z) (h_rf : RC_rf Z)  : RC_rf ZA := by
  have k44 := kp_av (o := 44) hkA (by rfl) (by decide)
  have k61 := kp_av (o := 61) hkA (by rfl) (by decide)
  have f37 : ZA 37 1 = Z 37 1 := kpF 37 1 hkA (by rfl)
  have f54 : ZA 54 1 = Z 54 1 := kpF 54 1 hkA (by rfl)
  have h01 := hI 1 5 0 2 rfl
  obtain ⟨-, -, -, pa, p1, p2, p0, -⟩ := pA
  unfold RC_rf at h_rf ⊢
  have hle : ZA 1 5 ≤ Z 1 5 := by
    rcases pa with ⟨a, b, d⟩ | ⟨a, b, d⟩ <;> omega
  refine ⟨?_, fun g => RGF_o f37 k44 (h_rf.2.1 (by omega)), fun g => RGF_o f54 k61 (h_rf.2.2 (by omega))⟩
  have hcase : Z 1 5 = 0 ∨ Z 1 5 = 1 ∨ Z 1 5 = 2 := by omega
  rcases hcase with h5 | h5 | h5
  · have u := p0 h5
    exact RGF_o (congrFun (u 19 (by decide) (by decide)) 1) (u 26 (by decide) (by decide)) h_rf.1
  · exact RGF_c (d := 19) (s := 37) (p1 h5).2.2.2.2.2.2.2.2 (h_rf.2.1 (by omega))
  · exact RGF_c (d := 19) (s := 54) (p2 h5).2.2.2.2.2.2.2.2 (h_rf.2.2 (by omega))
theorem kb_edge {Z : ZT} (hB : KB Z) (k : Nat) (hk : k < 2) : 0 ≤ Z 121 (700 * (k : Int) + 1).toNat ∧ Z 121 (700 * (k : Int) + 1).toNat ≤ 2 := by
  have q := hB k 1 hk (by decide) 0 2 rfl
  rw [show (700 * (k : Int) + 1).toNat = 700 * k + 1 by omega]
  exact q
theorem ek_of {Z : ZT} (h : RC_sk Z) (hB : KB Z) : (Z 1 5 = 1 → 0 ≤ Z 36 3 ∧ Z 36 3 ≤ 2) ∧ (Z 1 5 = 2 → 0 ≤ Z 53 3 ∧ Z 53 3 ≤ 2) := by
  refine ⟨fun e => ?_, fun e => ?_⟩
  · have q := (h.1 (by omega)).1
    rw [q]
    exact kb_edge hB 0 (by decide)
  · have q := (h.2 (by omega)).1
    rw [q]
    exact kb_edge hB 1 (by decide)
theorem mk_al {Z ZA : ZT} {d : Int} {R R' : Nat → Int} (h : ALK Z ZA) (hc : RWC Z 0 d R) (hm : RWM ZA 0 R') (hd : 1 ≤ d ∧ d ≤ 12) {c l : Nat} (hcc : (c : Int) < Z 2 2) (hl : l < 4) : mkV (envN Z 2) R d.toNat c l = mkV (envW ZA) R' d.toNat c l := by
  have k := fun (s : Nat) (hs : (s : Int) ≤ d) (c l : Nat) (hc' : (c : Int) < Z 2 2) (hl : l < 4) => rw_al (s := s) (c := c) (l := l) h hc hm (by omega) hs hc' hl
  obtain ⟨q, w, w', wt, wt', hs, hF, ed⟩ := h
  rw [mkV_e q w (fun l hl hp => (wt l hl hp).2) (by omega) hl]
  refine mkV_lk (N := (Z 2 2).toNat) ⟨fun c2 i hc2 hi => k _ (by omega) c2 i (by omega) hi, fun i hi _ _ => k _ (by omega) c i hcc hi⟩ w (by omega) hl (wt l hl)
theorem cu_second {Z ZA ZB : ZT} { a1 a2 xA xB : Int} (pA : (xA = -1 ∧ ¬((1 ≤ a1 ∧ a1 ≤ 12) ∧ 0 ≤ a2 ∧ a2 < Z 2 2) ∨ ((1 ≤ a1 ∧ a1 ≤ 12) ∧ 0 ≤ a2 ∧ a2 < Z 2 2) ∧ ∃ R : Nat → Int, RWC Z 0 a1 R ∧ xA = btF (fun l => decide (mkV (envN Z 2) R a1.toNat a2.toNat l ≠ R (144 * a1.toNat + 4 * a2.toNat + l))) 4) ∧ (NBB ZA) ∧ True) (pB : (xB = -1 ∧ ¬((1 ≤ a1 ∧ a1 ≤ 12) ∧ 0 ≤ a2 ∧ a2 < ZA 100 0 * ZA 100 1) ∨ ((1 ≤ a1 ∧ a1 ≤ 12) ∧ 0 ≤ a2 ∧ a2 < ZA 100 0 * ZA 100 1) ∧ ∃ R : Nat → Int, RWM ZA 0 R ∧ xB = btF (fun l => decide (mkV (envW ZA) R a1.toNat a2.toNat l ≠ R (144 * a1.toNat + 4 * a2.toNat + l))) 4) ∧ True) (hkA : kp ([71, 73, 5070, 5072]) Z ZA) (hkB : kp ([122, 124, 36100, 37100]) ZA ZB) (hI : CI Z) (h_dm : RC_dm Z) (h_sn : RC_sn Z) (h_pn : RC_pn Z) (h_nr : RC_nr Z) (h_rf : RC_rf Z) (hE : E1 Z) : xA = xB := by
  have fm := kp_cls hkA (by rfl)
  have fc := kp_mod hkB (by rfl)
  have al := al_of h_dm h_sn h_pn h_nr h_rf hI hE fm
  have ed := al.2.2.2.2.2.2.2
  have pb := pB.1
  rw [ed] at pb
  rcases pA.1 with ⟨a, b⟩ | ⟨b, R, hR, a⟩ <;> rcases pb with ⟨e, f⟩ | ⟨f, R', hR', e⟩
  · omega
  · exact absurd f b
  · exact absurd b f
  · rw [a, e]
    refine btF_eq 4 (fun l hl => ?_)
    rw [mk_al al hR hR' (by omega) (c := a2.toNat) (l := l) (by omega) hl, rw_al al hR hR' (by omega) (s := a1.toNat) (c := a2.toNat) (l := l) (by omega) (by omega) hl]
/-- what class and reference have alike between calls -/
def RLX (Z : ZT) : Prop := RC_dm Z ∧ RC_wk Z ∧ RC_stG Z ∧ RC_sn Z ∧ RC_sk Z ∧ RC_tx Z ∧ RC_pn Z ∧ RC_sp Z ∧ RC_nr Z ∧ RC_rv Z ∧ RC_rf Z ∧ RC_nf Z ∧ RC_nb Z ∧ True
set_option maxRecDepth 100000 in
set_option maxHeartbeats 40000000 in
theorem lc_0 {L : Nat} {xs : Nat → Int} {G : GT} (hG : Clo MCL 130 (some (L, xs)) QL G) {i : Int} (hi : 0 ≤ i ∧ i + 7 ≤ (L : Int)) (hL : L ≤ 3584) {Z : ZT} (hZ : LI Z) (hR : RLX Z) (hE : ∀ Z1, LI Z1 → RLX Z1 → G 1299 [(0, vr 0), (1, vr 1), (2, vr 100), (3, vi i)] [] (130, Z1, R0)) : G 180 [(0, vr 0), (1, vr 1), (2, vr 100), (3, vi i)] [] (130, Z, R0) := by
  obtain ⟨h_dm, h_wk, h_stG, h_sn, h_sk, h_tx, h_pn, h_sp, h_nr, h_rv, h_rf, h_nf, h_nb, -⟩ := hR
  have o_dm := h_dm
  have o_wk := h_wk
  have o_stG := h_stG
  have o_sn := h_sn
  have o_sk := h_sk
  have o_tx := h_tx
  have o_pn := h_pn
  have o_sp := h_sp
  have o_nr := h_nr
  have o_rv := h_rv
  have o_rf := h_rf
  have o_nf := h_nf
  have o_nb := h_nb
  have hCI := hZ.1
  have hp0 : 0 ≤ Z 18 4 ∧ Z 18 4 ≤ 12 := by (have q := hCI 100 19 0 12 rfl; have q2 := h_sn; unfold RC_sn at q2; omega)
  have htx0 : 0 ≤ Z 6 1 ∧ Z 6 1 ≤ 160 := by (have q := hCI 100 5 0 160 rfl; have q2 := h_tx.1; omega)
  have hE1 := hZ.2.1
  have hed : 0 ≤ Z 18 3 ∧ Z 18 3 ≤ 2 := by (have q := hCI 100 2 0 2 rfl; have q2 := h_sn; unfold RC_sn at q2; omega)
  have hek := ek_of h_sk hZ.2.2.2.1
  refine wp_run hG [1299] 200 _ _ _ _ ?_
  repeat' (first
    | with_reducible rfl
    | ((with_reducible show BYT (bC _)); exact tx_byC h_tx)
    | ((with_reducible show BYT (mB _)); exact tx_byM h_tx)
    | ((with_reducible show PWF _); exact PN_pwf h_pn)
    | ((with_reducible show NBB _); exact o_nb)
    | ((with_reducible show NBF _); exact o_nf)
    | ((with_reducible show NRC _); exact o_nr)
    | ((with_reducible show NBS _); exact nbs_of o_sn o_pn o_nr o_rv o_rf hCI hE1)
    | ((with_reducible show PLH _); exact PLH_o (fun o h1 h2 => kp_cls hkA (by rfl) o (by omega) (by omega)) (PN_plh o_pn hE1 o_rf.1))
    | ((with_reducible show NWM _); exact NWM_o (fun o h1 h2 => kp_cls hkA (by rfl) o (by omega) (by omega)) (PN_nwm o_pn hCI))
    | ((with_reducible show LNO _); exact LNO_o (fun o h1 h2 => kp_cls hkA (by rfl) o (by omega) (by omega)) (congrFun (kp_cls hkA (by rfl) 100 (by decide) (by decide)) 7) (PN_lno o_pn))
    | ((with_reducible show FRM _); exact FRM_o (kp_cls hkA (by rfl) 112 (by decide) (by decide)) (kp_cls hkA (by rfl) 101 (by decide) (by decide)) (frm_of o_sn o_rv))
    | refine And.intro ?_ ?_
    | (intro (r : Option PV) σ' hq
       first
       | (obtain ⟨rfl, rfl⟩ := hq)
       | (obtain ⟨rfl, x, rfl, hp⟩ := hq; (try replace hp : _ ∧ _ := hp); (try dsimp only at hp))
       | (obtain ⟨Z', x, rfl, rfl, hI2, hk2, hp⟩ := hq; (try replace hp : _ ∧ _ := hp); (try dsimp only at hp); (first | have hk3 := kp_of hk2 | have hk3 := hk2); (first | have hZ := LI_av hZ hI2 hk3 (by rfl) | have hZ := LI_sky hZ hI2 hk3 hp.2.1 (by rfl) | skip); (first | have h_dm := RC_dm_av hk3 (by rfl) h_dm | skip); (first | have h_wk := RC_wk_av hk3 (by rfl) h_wk | skip); (first | have h_stG := RC_stG_av hk3 (by rfl) h_stG | skip); (first | have h_sn := RC_sn_av hk3 (by rfl) h_sn | skip); (first | have h_sk := RC_sk_av hk3 (by rfl) h_sk | skip); (first | have h_tx := RC_tx_av hk3 (by rfl) h_tx | skip); (first | have h_pn := RC_pn_av hk3 (by rfl) h_pn | skip); (first | have h_sp := RC_sp_av hk3 (by rfl) h_sp | skip); (first | have h_nr := RC_nr_av hk3 (by rfl) h_nr | skip); (first | have h_rv := RC_rv_av hk3 (by rfl) h_rv | skip); (first | have h_rf := RC_rf_av hk3 (by rfl) h_rf | skip); (first | have h_nf := RC_nf_av hk3 (by rfl) h_nf | skip); (first | have h_nb := RC_nb_av hk3 (by rfl) h_nb | skip); (first | (have hk0 := hkA; clear hk0; have hkB := hk3; (try have hpB := hp); (((have hpA := And.intro hpA.1 (And.intro hpA.2.1 (trivial))); (have hkA : kp ([1, 2, 3, 18, 29, 70, 72, 74, 76, 78, 81, 82, 88, 89, 91, 93]) Z _ := kp_mono (by rfl) hkA)); ((obtain ⟨hx, h_dm⟩ := cu_sky_dm hpA hpB hkA hkB hCI o_dm; (try dsimp only at hx)); (have h_sn := cu_sky_sn hpA hpB hkA hkB hCI o_sn); (have h_stG := cu_sky_st hpA hpB hkA hkB hCI o_stG); (have h_sk := cu_sky_sk hpA hpB hkA hkB hCI o_sk); (have h_sp := cu_sky_sp hpA hpB hkA hkB hCI o_sp)))) | (have hkA := hk3; (try have hpA := hp); ((have h_nb : RC_nb _ := hpA.2.2.1; have h_nr : RC_nr _ := hpA.2.2.2.1); (have h_rv := cu_sky_rv hpA hkA hCI o_rv); (have h_rf := cu_sky_rf hpA hkA hCI o_rf)))))
       | (obtain ⟨Z', x, rfl, rfl, hI2, hk2⟩ := hq; (first | have hk3 := kp_of hk2 | have hk3 := hk2); (first | have hZ := LI_av hZ hI2 hk3 (by rfl) | have hZ := LI_sky hZ hI2 hk3 hp.2.1 (by rfl) | skip); (first | have h_dm := RC_dm_av hk3 (by rfl) h_dm | skip); (first | have h_wk := RC_wk_av hk3 (by rfl) h_wk | skip); (first | have h_stG := RC_stG_av hk3 (by rfl) h_stG | skip); (first | have h_sn := RC_sn_av hk3 (by rfl) h_sn | skip); (first | have h_sk := RC_sk_av hk3 (by rfl) h_sk | skip); (first | have h_tx := RC_tx_av hk3 (by rfl) h_tx | skip); (first | have h_pn := RC_pn_av hk3 (by rfl) h_pn | skip); (first | have h_sp := RC_sp_av hk3 (by rfl) h_sp | skip); (first | have h_nr := RC_nr_av hk3 (by rfl) h_nr | skip); (first | have h_rv := RC_rv_av hk3 (by rfl) h_rv | skip); (first | have h_rf := RC_rf_av hk3 (by rfl) h_rf | skip); (first | have h_nf := RC_nf_av hk3 (by rfl) h_nf | skip); (first | have h_nb := RC_nb_av hk3 (by rfl) h_nb | skip); (first | (have hk0 := hkA; clear hk0; have hkB := hk3; (try have hpB := hp); (((have hpA := And.intro hpA.1 (And.intro hpA.2.1 (trivial))); (have hkA : kp ([1, 2, 3, 18, 29, 70, 72, 74, 76, 78, 81, 82, 88, 89, 91, 93]) Z _ := kp_mono (by rfl) hkA)); ((obtain ⟨hx, h_dm⟩ := cu_sky_dm hpA hpB hkA hkB hCI o_dm; (try dsimp only at hx)); (have h_sn := cu_sky_sn hpA hpB hkA hkB hCI o_sn); (have h_stG := cu_sky_st hpA hpB hkA hkB hCI o_stG); (have h_sk := cu_sky_sk hpA hpB hkA hkB hCI o_sk); (have h_sp := cu_sky_sp hpA hpB hkA hkB hCI o_sp)))) | (have hkA := hk3; (try have hpA := hp); ((have h_nb : RC_nb _ := hpA.2.2.1; have h_nr : RC_nr _ := hpA.2.2.2.1); (have h_rv := cu_sky_rv hpA hkA hCI o_rv); (have h_rf := cu_sky_rf hpA hkA hCI o_rf)))))
       | (rcases hq with ⟨Z', rfl, rfl, hI2, hk2⟩ | ⟨Z', rfl, rfl, hI2, hk2⟩ <;> ((first | have hk3 := kp_of hk2 | have hk3 := hk2); (first | have hZ := LI_av hZ hI2 hk3 (by rfl) | have hZ := LI_sky hZ hI2 hk3 hp.2.1 (by rfl) | skip); (first | have h_dm := RC_dm_av hk3 (by rfl) h_dm | skip); (first | have h_wk := RC_wk_av hk3 (by rfl) h_wk | skip); (first | have h_stG := RC_stG_av hk3 (by rfl) h_stG | skip); (first | have h_sn := RC_sn_av hk3 (by rfl) h_sn | skip); (first | have h_sk := RC_sk_av hk3 (by rfl) h_sk | skip); (first | have h_tx := RC_tx_av hk3 (by rfl) h_tx | skip); (first | have h_pn := RC_pn_av hk3 (by rfl) h_pn | skip); (first | have h_sp := RC_sp_av hk3 (by rfl) h_sp | skip); (first | have h_nr := RC_nr_av hk3 (by rfl) h_nr | skip); (first | have h_rv := RC_rv_av hk3 (by rfl) h_rv | skip); (first | have h_rf := RC_rf_av hk3 (by rfl) h_rf | skip); (first | have h_nf := RC_nf_av hk3 (by rfl) h_nf | skip); (first | have h_nb := RC_nb_av hk3 (by rfl) h_nb | skip); (first | (have hk0 := hkA; clear hk0; have hkB := hk3; (try have hpB := hp); (((have hpA := And.intro hpA.1 (And.intro hpA.2.1 (trivial))); (have hkA : kp ([1, 2, 3, 18, 29, 70, 72, 74, 76, 78, 81, 82, 88, 89, 91, 93]) Z _ := kp_mono (by rfl) hkA)); ((obtain ⟨hx, h_dm⟩ := cu_sky_dm hpA hpB hkA hkB hCI o_dm; (try dsimp only at hx)); (have h_sn := cu_sky_sn hpA hpB hkA hkB hCI o_sn); (have h_stG := cu_sky_st hpA hpB hkA hkB hCI o_stG); (have h_sk := cu_sky_sk hpA hpB hkA hkB hCI o_sk); (have h_sp := cu_sky_sp hpA hpB hkA hkB hCI o_sp)))) | (have hkA := hk3; (try have hpA := hp); ((have h_nb : RC_nb _ := hpA.2.2.1; have h_nr : RC_nr _ := hpA.2.2.2.1); (have h_rv := cu_sky_rv hpA hkA hCI o_rv); (have h_rf := cu_sky_rf hpA hkA hCI o_rf))))))
       | (obtain ⟨Z', rfl, rfl, hI2, hk2, hp⟩ := hq; (first | have hk3 := kp_of hk2 | have hk3 := hk2); (first | have hZ := LI_av hZ hI2 hk3 (by rfl) | have hZ := LI_sky hZ hI2 hk3 hp.2.1 (by rfl) | skip); (first | have h_dm := RC_dm_av hk3 (by rfl) h_dm | skip); (first | have h_wk := RC_wk_av hk3 (by rfl) h_wk | skip); (first | have h_stG := RC_stG_av hk3 (by rfl) h_stG | skip); (first | have h_sn := RC_sn_av hk3 (by rfl) h_sn | skip); (first | have h_sk := RC_sk_av hk3 (by rfl) h_sk | skip); (first | have h_tx := RC_tx_av hk3 (by rfl) h_tx | skip); (first | have h_pn := RC_pn_av hk3 (by rfl) h_pn | skip); (first | have h_sp := RC_sp_av hk3 (by rfl) h_sp | skip); (first | have h_nr := RC_nr_av hk3 (by rfl) h_nr | skip); (first | have h_rv := RC_rv_av hk3 (by rfl) h_rv | skip); (first | have h_rf := RC_rf_av hk3 (by rfl) h_rf | skip); (first | have h_nf := RC_nf_av hk3 (by rfl) h_nf | skip); (first | have h_nb := RC_nb_av hk3 (by rfl) h_nb | skip); (first | (have hk0 := hkA; clear hk0; have hkB := hk3; (try have hpB := hp); (((have hpA := And.intro hpA.1 (And.intro hpA.2.1 (trivial))); (have hkA : kp ([1, 2, 3, 18, 29, 70, 72, 74, 76, 78, 81, 82, 88, 89, 91, 93]) Z _ := kp_mono (by rfl) hkA)); ((obtain ⟨hx, h_dm⟩ := cu_sky_dm hpA hpB hkA hkB hCI o_dm; (try dsimp only at hx)); (have h_sn := cu_sky_sn hpA hpB hkA hkB hCI o_sn); (have h_stG := cu_sky_st hpA hpB hkA hkB hCI o_stG); (have h_sk := cu_sky_sk hpA hpB hkA hkB hCI o_sk); (have h_sp := cu_sky_sp hpA hpB hkA hkB hCI o_sp)))) | (have hkA := hk3; (try have hpA := hp); ((have h_nb : RC_nb _ := hpA.2.2.1; have h_nr : RC_nr _ := hpA.2.2.2.1); (have h_rv := cu_sky_rv hpA hkA hCI o_rv); (have h_rf := cu_sky_rf hpA hkA hCI o_rf)))))
       | (obtain ⟨Z', rfl, rfl, hI2, hk2⟩ := hq; (first | have hk3 := kp_of hk2 | have hk3 := hk2); (first | have hZ := LI_av hZ hI2 hk3 (by rfl) | have hZ := LI_sky hZ hI2 hk3 hp.2.1 (by rfl) | skip); (first | have h_dm := RC_dm_av hk3 (by rfl) h_dm | skip); (first | have h_wk := RC_wk_av hk3 (by rfl) h_wk | skip); (first | have h_stG := RC_stG_av hk3 (by rfl) h_stG | skip); (first | have h_sn := RC_sn_av hk3 (by rfl) h_sn | skip); (first | have h_sk := RC_sk_av hk3 (by rfl) h_sk | skip); (first | have h_tx := RC_tx_av hk3 (by rfl) h_tx | skip); (first | have h_pn := RC_pn_av hk3 (by rfl) h_pn | skip); (first | have h_sp := RC_sp_av hk3 (by rfl) h_sp | skip); (first | have h_nr := RC_nr_av hk3 (by rfl) h_nr | skip); (first | have h_rv := RC_rv_av hk3 (by rfl) h_rv | skip); (first | have h_rf := RC_rf_av hk3 (by rfl) h_rf | skip); (first | have h_nf := RC_nf_av hk3 (by rfl) h_nf | skip); (first | have h_nb := RC_nb_av hk3 (by rfl) h_nb | skip); (first | (have hk0 := hkA; clear hk0; have hkB := hk3; (try have hpB := hp); (((have hpA := And.intro hpA.1 (And.intro hpA.2.1 (trivial))); (have hkA : kp ([1, 2, 3, 18, 29, 70, 72, 74, 76, 78, 81, 82, 88, 89, 91, 93]) Z _ := kp_mono (by rfl) hkA)); ((obtain ⟨hx, h_dm⟩ := cu_sky_dm hpA hpB hkA hkB hCI o_dm; (try dsimp only at hx)); (have h_sn := cu_sky_sn hpA hpB hkA hkB hCI o_sn); (have h_stG := cu_sky_st hpA hpB hkA hkB hCI o_stG); (have h_sk := cu_sky_sk hpA hpB hkA hkB hCI o_sk); (have h_sp := cu_sky_sp hpA hpB hkA hkB hCI o_sp)))) | (have hkA := hk3; (try have hpA := hp); ((have h_nb : RC_nb _ := hpA.2.2.1; have h_nr : RC_nr _ := hpA.2.2.2.1); (have h_rv := cu_sky_rv hpA hkA hCI o_rv); (have h_rf := cu_sky_rf hpA hkA hCI o_rf))))))
    | (intro hc; (try simp only [cmp3_c] at hc); simp only [cmpI] at hc; (try (exfalso; omega))))
  all_goals first
    | with_reducible rfl
    | ((with_reducible show recvG _ _); rfl)
    | with_reducible exact trivial
    | ((with_reducible show BYT (bC _)); exact tx_byC h_tx)
    | ((with_reducible show BYT (mB _)); exact tx_byM h_tx)
    | ((with_reducible show PWF _); exact PN_pwf h_pn)
    | ((with_reducible show NBB _); exact o_nb)
    | ((with_reducible show NBF _); exact o_nf)
    | ((with_reducible show NRC _); exact o_nr)
    | ((with_reducible show NBS _); exact nbs_of o_sn o_pn o_nr o_rv o_rf hCI hE1)
    | ((with_reducible show PLH _); exact PLH_o (fun o h1 h2 => kp_cls hkA (by rfl) o (by omega) (by omega)) (PN_plh o_pn hE1 o_rf.1))
    | ((with_reducible show NWM _); exact NWM_o (fun o h1 h2 => kp_cls hkA (by rfl) o (by omega) (by omega)) (PN_nwm o_pn hCI))
    | ((with_reducible show LNO _); exact LNO_o (fun o h1 h2 => kp_cls hkA (by rfl) o (by omega) (by omega)) (congrFun (kp_cls hkA (by rfl) 100 (by decide) (by decide)) 7) (PN_lno o_pn))
    | ((with_reducible show FRM _); exact FRM_o (kp_cls hkA (by rfl) 112 (by decide) (by decide)) (kp_cls hkA (by rfl) 101 (by decide) (by decide)) (frm_of o_sn o_rv))
    | ((with_reducible show CI _); exact hZ.1)
    | ((with_reducible show E1 _); exact hZ.2.1)
    | ((with_reducible show EB _); exact hZ.2.2.1)
    | ((with_reducible show KB _); exact hZ.2.2.2.1)
    | ((with_reducible show KE _); exact hZ.2.2.2.2)
    | (refine hG.2 1299 _ [(0, vr 0), (1, vr 1), (2, vr 100), (3, vi i)] _ _ rfl ?_; exact hE _ hZ ⟨(by assumption), (by assumption), (by assumption), (by assumption), (by assumption), (by assumption), (by assumption), (by assumption), (by assumption), (by assumption), (by assumption), (by assumption), (by assumption), trivial⟩)
    | decide
    | (refine (sx hi hL (k := 0) (by decide) ?_).1; simp (disch := omega) only [w32_id]; omega)
    | (with_reducible refine (sx hi hL ?_ rfl).1; decide)
    | (with_reducible refine (sx hi hL ?_ rfl).2; decide)
    | omega
    | (dsimp only; omega)
    | (exfalso; omega)
    | rfl
    | skip

set_option maxRecDepth 100000 in
set_option maxHeartbeats 40000000 in
theorem lc_1 {L : Nat} {xs : Nat → Int} {G : GT} (hG : Clo MCL 130 (some (L, xs)) QL G) {i : Int} (hi : 0 ≤ i ∧ i + 7 ≤ (L : Int)) (hL : L ≤ 3584) {Z : ZT} (hZ : LI Z) (hR : RLX Z) (hE : ∀ Z1, LI Z1 → RLX Z1 → G 1299 [(0, vr 0), (1, vr 1), (2, vr 100), (3, vi i)] [] (130, Z1, R0)) : G 213 [(0, vr 0), (1, vr 1), (2, vr 100), (3, vi i)] [] (130, Z, R0) := by
  obtain ⟨h_dm, h_wk, h_stG, h_sn, h_sk, h_tx, h_pn, h_sp, h_nr, h_rv, h_rf, h_nf, h_nb, -⟩ := hR
  have o_dm := h_dm
  have o_wk := h_wk
  have o_stG := h_stG
  have o_sn := h_sn
  have o_sk := h_sk
  have o_tx := h_tx
  have o_pn := h_pn
  have o_sp := h_sp
  have o_nr := h_nr
  have o_rv := h_rv
  have o_rf := h_rf
  have o_nf := h_nf
  have o_nb := h_nb
  have hCI := hZ.1
  have hp0 : 0 ≤ Z 18 4 ∧ Z 18 4 ≤ 12 := by (have q := hCI 100 19 0 12 rfl; have q2 := h_sn; unfold RC_sn at q2; omega)
  have htx0 : 0 ≤ Z 6 1 ∧ Z 6 1 ≤ 160 := by (have q := hCI 100 5 0 160 rfl; have q2 := h_tx.1; omega)
  have hE1 := hZ.2.1
  have hed : 0 ≤ Z 18 3 ∧ Z 18 3 ≤ 2 := by (have q := hCI 100 2 0 2 rfl; have q2 := h_sn; unfold RC_sn at q2; omega)
  have hek := ek_of h_sk hZ.2.2.2.1
  refine wp_run hG [1299] 200 _ _ _ _ ?_
  repeat' (first
    | with_reducible rfl
    | ((with_reducible show BYT (bC _)); exact tx_byC h_tx)
    | ((with_reducible show BYT (mB _)); exact tx_byM h_tx)
    | ((with_reducible show PWF _); exact PN_pwf h_pn)
    | ((with_reducible show NBB _); exact o_nb)
    | ((with_reducible show NBF _); exact o_nf)
    | ((with_reducible show NRC _); exact o_nr)
    | ((with_reducible show NBS _); exact nbs_of o_sn o_pn o_nr o_rv o_rf hCI hE1)
    | ((with_reducible show PLH _); exact PLH_o (fun o h1 h2 => kp_cls hkA (by rfl) o (by omega) (by omega)) (PN_plh o_pn hE1 o_rf.1))
    | ((with_reducible show NWM _); exact NWM_o (fun o h1 h2 => kp_cls hkA (by rfl) o (by omega) (by omega)) (PN_nwm o_pn hCI))
    | ((with_reducible show LNO _); exact LNO_o (fun o h1 h2 => kp_cls hkA (by rfl) o (by omega) (by omega)) (congrFun (kp_cls hkA (by rfl) 100 (by decide) (by decide)) 7) (PN_lno o_pn))
    | ((with_reducible show FRM _); exact FRM_o (kp_cls hkA (by rfl) 112 (by decide) (by decide)) (kp_cls hkA (by rfl) 101 (by decide) (by decide)) (frm_of o_sn o_rv))
    | refine And.intro ?_ ?_
    | (intro (r : Option PV) σ' hq
       first
       | (obtain ⟨rfl, rfl⟩ := hq)
       | (obtain ⟨rfl, x, rfl, hp⟩ := hq; (try replace hp : _ ∧ _ := hp); (try dsimp only at hp))
       | (obtain ⟨Z', x, rfl, rfl, hI2, hk2, hp⟩ := hq; (try replace hp : _ ∧ _ := hp); (try dsimp only at hp); (first | have hk3 := kp_of hk2 | have hk3 := hk2); (first | have hZ := LI_av hZ hI2 hk3 (by rfl) | skip); (first | have h_dm := RC_dm_av hk3 (by rfl) h_dm | skip); (first | have h_wk := RC_wk_av hk3 (by rfl) h_wk | skip); (first | have h_stG := RC_stG_av hk3 (by rfl) h_stG | skip); (first | have h_sn := RC_sn_av hk3 (by rfl) h_sn | skip); (first | have h_sk := RC_sk_av hk3 (by rfl) h_sk | skip); (first | have h_tx := RC_tx_av hk3 (by rfl) h_tx | skip); (first | have h_pn := RC_pn_av hk3 (by rfl) h_pn | skip); (first | have h_sp := RC_sp_av hk3 (by rfl) h_sp | skip); (first | have h_nr := RC_nr_av hk3 (by rfl) h_nr | skip); (first | have h_rv := RC_rv_av hk3 (by rfl) h_rv | skip); (first | have h_rf := RC_rf_av hk3 (by rfl) h_rf | skip); (first | have h_nf := RC_nf_av hk3 (by rfl) h_nf | skip); (first | have h_nb := RC_nb_av hk3 (by rfl) h_nb | skip); (first | (have hk0 := hkA; clear hk0; have hkB := hk3; (try have hpB := hp); (((have hpA := And.intro hpA.1 (And.intro hpA.2.1 (And.intro hpA.2.2.1 (And.intro hpA.2.2.2.1 (And.intro hpA.2.2.2.2.1 (trivial)))))); (have hkA : kp ([2, 3, 18, 70, 72, 74, 76, 78, 86, 88, 91, 93]) Z _ := kp_mono (by rfl) hkA)); (obtain ⟨hx, h_sn, h_wk⟩ := cu_rule_sn hpA hpB hkA hkB hCI o_sn o_wk; (try dsimp only at hx)))) | (have hkA := hk3; (try have hpA := hp); ((have h_nb : RC_nb _ := hpA.2.2.2.2.2.1; have h_nr : RC_nr _ := hpA.2.2.2.2.2.2.1); (have h_dm := cu_cls_dm hpA.2.2.1 hpA.2.2.2.1 hpA.2.2.2.2.1 (kpF 100 0 hkA (by rfl)) (kpF 100 1 hkA (by rfl)) h_dm)))))
       | (obtain ⟨Z', x, rfl, rfl, hI2, hk2⟩ := hq; (first | have hk3 := kp_of hk2 | have hk3 := hk2); (first | have hZ := LI_av hZ hI2 hk3 (by rfl) | skip); (first | have h_dm := RC_dm_av hk3 (by rfl) h_dm | skip); (first | have h_wk := RC_wk_av hk3 (by rfl) h_wk | skip); (first | have h_stG := RC_stG_av hk3 (by rfl) h_stG | skip); (first | have h_sn := RC_sn_av hk3 (by rfl) h_sn | skip); (first | have h_sk := RC_sk_av hk3 (by rfl) h_sk | skip); (first | have h_tx := RC_tx_av hk3 (by rfl) h_tx | skip); (first | have h_pn := RC_pn_av hk3 (by rfl) h_pn | skip); (first | have h_sp := RC_sp_av hk3 (by rfl) h_sp | skip); (first | have h_nr := RC_nr_av hk3 (by rfl) h_nr | skip); (first | have h_rv := RC_rv_av hk3 (by rfl) h_rv | skip); (first | have h_rf := RC_rf_av hk3 (by rfl) h_rf | skip); (first | have h_nf := RC_nf_av hk3 (by rfl) h_nf | skip); (first | have h_nb := RC_nb_av hk3 (by rfl) h_nb | skip); (first | (have hk0 := hkA; clear hk0; have hkB := hk3; (try have hpB := hp); (((have hpA := And.intro hpA.1 (And.intro hpA.2.1 (And.intro hpA.2.2.1 (And.intro hpA.2.2.2.1 (And.intro hpA.2.2.2.2.1 (trivial)))))); (have hkA : kp ([2, 3, 18, 70, 72, 74, 76, 78, 86, 88, 91, 93]) Z _ := kp_mono (by rfl) hkA)); (obtain ⟨hx, h_sn, h_wk⟩ := cu_rule_sn hpA hpB hkA hkB hCI o_sn o_wk; (try dsimp only at hx)))) | (have hkA := hk3; (try have hpA := hp); ((have h_nb : RC_nb _ := hpA.2.2.2.2.2.1; have h_nr : RC_nr _ := hpA.2.2.2.2.2.2.1); (have h_dm := cu_cls_dm hpA.2.2.1 hpA.2.2.2.1 hpA.2.2.2.2.1 (kpF 100 0 hkA (by rfl)) (kpF 100 1 hkA (by rfl)) h_dm)))))
       | (rcases hq with ⟨Z', rfl, rfl, hI2, hk2⟩ | ⟨Z', rfl, rfl, hI2, hk2⟩ <;> ((first | have hk3 := kp_of hk2 | have hk3 := hk2); (first | have hZ := LI_av hZ hI2 hk3 (by rfl) | skip); (first | have h_dm := RC_dm_av hk3 (by rfl) h_dm | skip); (first | have h_wk := RC_wk_av hk3 (by rfl) h_wk | skip); (first | have h_stG := RC_stG_av hk3 (by rfl) h_stG | skip); (first | have h_sn := RC_sn_av hk3 (by rfl) h_sn | skip); (first | have h_sk := RC_sk_av hk3 (by rfl) h_sk | skip); (first | have h_tx := RC_tx_av hk3 (by rfl) h_tx | skip); (first | have h_pn := RC_pn_av hk3 (by rfl) h_pn | skip); (first | have h_sp := RC_sp_av hk3 (by rfl) h_sp | skip); (first | have h_nr := RC_nr_av hk3 (by rfl) h_nr | skip); (first | have h_rv := RC_rv_av hk3 (by rfl) h_rv | skip); (first | have h_rf := RC_rf_av hk3 (by rfl) h_rf | skip); (first | have h_nf := RC_nf_av hk3 (by rfl) h_nf | skip); (first | have h_nb := RC_nb_av hk3 (by rfl) h_nb | skip); (first | (have hk0 := hkA; clear hk0; have hkB := hk3; (try have hpB := hp); (((have hpA := And.intro hpA.1 (And.intro hpA.2.1 (And.intro hpA.2.2.1 (And.intro hpA.2.2.2.1 (And.intro hpA.2.2.2.2.1 (trivial)))))); (have hkA : kp ([2, 3, 18, 70, 72, 74, 76, 78, 86, 88, 91, 93]) Z _ := kp_mono (by rfl) hkA)); (obtain ⟨hx, h_sn, h_wk⟩ := cu_rule_sn hpA hpB hkA hkB hCI o_sn o_wk; (try dsimp only at hx)))) | (have hkA := hk3; (try have hpA := hp); ((have h_nb : RC_nb _ := hpA.2.2.2.2.2.1; have h_nr : RC_nr _ := hpA.2.2.2.2.2.2.1); (have h_dm := cu_cls_dm hpA.2.2.1 hpA.2.2.2.1 hpA.2.2.2.2.1 (kpF 100 0 hkA (by rfl)) (kpF 100 1 hkA (by rfl)) h_dm))))))
       | (obtain ⟨Z', rfl, rfl, hI2, hk2, hp⟩ := hq; (first | have hk3 := kp_of hk2 | have hk3 := hk2); (first | have hZ := LI_av hZ hI2 hk3 (by rfl) | skip); (first | have h_dm := RC_dm_av hk3 (by rfl) h_dm | skip); (first | have h_wk := RC_wk_av hk3 (by rfl) h_wk | skip); (first | have h_stG := RC_stG_av hk3 (by rfl) h_stG | skip); (first | have h_sn := RC_sn_av hk3 (by rfl) h_sn | skip); (first | have h_sk := RC_sk_av hk3 (by rfl) h_sk | skip); (first | have h_tx := RC_tx_av hk3 (by rfl) h_tx | skip); (first | have h_pn := RC_pn_av hk3 (by rfl) h_pn | skip); (first | have h_sp := RC_sp_av hk3 (by rfl) h_sp | skip); (first | have h_nr := RC_nr_av hk3 (by rfl) h_nr | skip); (first | have h_rv := RC_rv_av hk3 (by rfl) h_rv | skip); (first | have h_rf := RC_rf_av hk3 (by rfl) h_rf | skip); (first | have h_nf := RC_nf_av hk3 (by rfl) h_nf | skip); (first | have h_nb := RC_nb_av hk3 (by rfl) h_nb | skip); (first | (have hk0 := hkA; clear hk0; have hkB := hk3; (try have hpB := hp); (((have hpA := And.intro hpA.1 (And.intro hpA.2.1 (And.intro hpA.2.2.1 (And.intro hpA.2.2.2.1 (And.intro hpA.2.2.2.2.1 (trivial)))))); (have hkA : kp ([2, 3, 18, 70, 72, 74, 76, 78, 86, 88, 91, 93]) Z _ := kp_mono (by rfl) hkA)); (obtain ⟨hx, h_sn, h_wk⟩ := cu_rule_sn hpA hpB hkA hkB hCI o_sn o_wk; (try dsimp only at hx)))) | (have hkA := hk3; (try have hpA := hp); ((have h_nb : RC_nb _ := hpA.2.2.2.2.2.1; have h_nr : RC_nr _ := hpA.2.2.2.2.2.2.1); (have h_dm := cu_cls_dm hpA.2.2.1 hpA.2.2.2.1 hpA.2.2.2.2.1 (kpF 100 0 hkA (by rfl)) (kpF 100 1 hkA (by rfl)) h_dm)))))
       | (obtain ⟨Z', rfl, rfl, hI2, hk2⟩ := hq; (first | have hk3 := kp_of hk2 | have hk3 := hk2); (first | have hZ := LI_av hZ hI2 hk3 (by rfl) | skip); (first | have h_dm := RC_dm_av hk3 (by rfl) h_dm | skip); (first | have h_wk := RC_wk_av hk3 (by rfl) h_wk | skip); (first | have h_stG := RC_stG_av hk3 (by rfl) h_stG | skip); (first | have h_sn := RC_sn_av hk3 (by rfl) h_sn | skip); (first | have h_sk := RC_sk_av hk3 (by rfl) h_sk | skip); (first | have h_tx := RC_tx_av hk3 (by rfl) h_tx | skip); (first | have h_pn := RC_pn_av hk3 (by rfl) h_pn | skip); (first | have h_sp := RC_sp_av hk3 (by rfl) h_sp | skip); (first | have h_nr := RC_nr_av hk3 (by rfl) h_nr | skip); (first | have h_rv := RC_rv_av hk3 (by rfl) h_rv | skip); (first | have h_rf := RC_rf_av hk3 (by rfl) h_rf | skip); (first | have h_nf := RC_nf_av hk3 (by rfl) h_nf | skip); (first | have h_nb := RC_nb_av hk3 (by rfl) h_nb | skip); (first | (have hk0 := hkA; clear hk0; have hkB := hk3; (try have hpB := hp); (((have hpA := And.intro hpA.1 (And.intro hpA.2.1 (And.intro hpA.2.2.1 (And.intro hpA.2.2.2.1 (And.intro hpA.2.2.2.2.1 (trivial)))))); (have hkA : kp ([2, 3, 18, 70, 72, 74, 76, 78, 86, 88, 91, 93]) Z _ := kp_mono (by rfl) hkA)); (obtain ⟨hx, h_sn, h_wk⟩ := cu_rule_sn hpA hpB hkA hkB hCI o_sn o_wk; (try dsimp only at hx)))) | (have hkA := hk3; (try have hpA := hp); ((have h_nb : RC_nb _ := hpA.2.2.2.2.2.1; have h_nr : RC_nr _ := hpA.2.2.2.2.2.2.1); (have h_dm := cu_cls_dm hpA.2.2.1 hpA.2.2.2.1 hpA.2.2.2.2.1 (kpF 100 0 hkA (by rfl)) (kpF 100 1 hkA (by rfl)) h_dm))))))
    | (intro hc; (try simp only [cmp3_c] at hc); simp only [cmpI] at hc; (try (exfalso; omega))))
  all_goals first
    | with_reducible rfl
    | ((with_reducible show recvG _ _); rfl)
    | with_reducible exact trivial
    | ((with_reducible show BYT (bC _)); exact tx_byC h_tx)
    | ((with_reducible show BYT (mB _)); exact tx_byM h_tx)
    | ((with_reducible show PWF _); exact PN_pwf h_pn)
    | ((with_reducible show NBB _); exact o_nb)
    | ((with_reducible show NBF _); exact o_nf)
    | ((with_reducible show NRC _); exact o_nr)
    | ((with_reducible show NBS _); exact nbs_of o_sn o_pn o_nr o_rv o_rf hCI hE1)
    | ((with_reducible show PLH _); exact PLH_o (fun o h1 h2 => kp_cls hkA (by rfl) o (by omega) (by omega)) (PN_plh o_pn hE1 o_rf.1))
    | ((with_reducible show NWM _); exact NWM_o (fun o h1 h2 => kp_cls hkA (by rfl) o (by omega) (by omega)) (PN_nwm o_pn hCI))
    | ((with_reducible show LNO _); exact LNO_o (fun o h1 h2 => kp_cls hkA (by rfl) o (by omega) (by omega)) (congrFun (kp_cls hkA (by rfl) 100 (by decide) (by decide)) 7) (PN_lno o_pn))
    | ((with_reducible show FRM _); exact FRM_o (kp_cls hkA (by rfl) 112 (by decide) (by decide)) (kp_cls hkA (by rfl) 101 (by decide) (by decide)) (frm_of o_sn o_rv))
    | ((with_reducible show CI _); exact hZ.1)
    | ((with_reducible show E1 _); exact hZ.2.1)
    | ((with_reducible show EB _); exact hZ.2.2.1)
    | ((with_reducible show KB _); exact hZ.2.2.2.1)
    | ((with_reducible show KE _); exact hZ.2.2.2.2)
    | (refine hG.2 1299 _ [(0, vr 0), (1, vr 1), (2, vr 100), (3, vi i)] _ _ rfl ?_; exact hE _ hZ ⟨(by assumption), (by assumption), (by assumption), (by assumption), (by assumption), (by assumption), (by assumption), (by assumption), (by assumption), (by assumption), (by assumption), (by assumption), (by assumption), trivial⟩)
    | decide
    | (refine (sx hi hL (k := 0) (by decide) ?_).1; simp (disch := omega) only [w32_id]; omega)
    | (with_reducible refine (sx hi hL ?_ rfl).1; decide)
    | (with_reducible refine (sx hi hL ?_ rfl).2; decide)
    | omega
    | (dsimp only; omega)
    | (exfalso; omega)
    | rfl
    | skip

set_option maxRecDepth 100000 in
set_option maxHeartbeats 40000000 in
theorem lc_2 {L : Nat} {xs : Nat → Int} {G : GT} (hG : Clo MCL 130 (some (L, xs)) QL G) {i : Int} (hi : 0 ≤ i ∧ i + 7 ≤ (L : Int)) (hL : L ≤ 3584) {Z : ZT} (hZ : LI Z) (hR : RLX Z) (hE : ∀ Z1, LI Z1 → RLX Z1 → G 1299 [(0, vr 0), (1, vr 1), (2, vr 100), (3, vi i)] [] (130, Z1, R0)) : G 246 [(0, vr 0), (1, vr 1), (2, vr 100), (3, vi i)] [] (130, Z, R0) := by
  obtain ⟨h_dm, h_wk, h_stG, h_sn, h_sk, h_tx, h_pn, h_sp, h_nr, h_rv, h_rf, h_nf, h_nb, -⟩ := hR
  have o_dm := h_dm
  have o_wk := h_wk
  have o_stG := h_stG
  have o_sn := h_sn
  have o_sk := h_sk
  have o_tx := h_tx
  have o_pn := h_pn
  have o_sp := h_sp
  have o_nr := h_nr
  have o_rv := h_rv
  have o_rf := h_rf
  have o_nf := h_nf
  have o_nb := h_nb
  have hCI := hZ.1
  have hp0 : 0 ≤ Z 18 4 ∧ Z 18 4 ≤ 12 := by (have q := hCI 100 19 0 12 rfl; have q2 := h_sn; unfold RC_sn at q2; omega)
  have htx0 : 0 ≤ Z 6 1 ∧ Z 6 1 ≤ 160 := by (have q := hCI 100 5 0 160 rfl; have q2 := h_tx.1; omega)
  have hE1 := hZ.2.1
  have hed : 0 ≤ Z 18 3 ∧ Z 18 3 ≤ 2 := by (have q := hCI 100 2 0 2 rfl; have q2 := h_sn; unfold RC_sn at q2; omega)
  have hek := ek_of h_sk hZ.2.2.2.1
  refine wp_run hG [1299] 200 _ _ _ _ ?_
  repeat' (first
    | with_reducible rfl
    | ((with_reducible show BYT (bC _)); exact tx_byC h_tx)
    | ((with_reducible show BYT (mB _)); exact tx_byM h_tx)
    | ((with_reducible show PWF _); exact PN_pwf h_pn)
    | ((with_reducible show NBB _); exact o_nb)
    | ((with_reducible show NBF _); exact o_nf)
    | ((with_reducible show NRC _); exact o_nr)
    | ((with_reducible show NBS _); exact nbs_of o_sn o_pn o_nr o_rv o_rf hCI hE1)
    | ((with_reducible show PLH _); exact PLH_o (fun o h1 h2 => kp_cls hkA (by rfl) o (by omega) (by omega)) (PN_plh o_pn hE1 o_rf.1))
    | ((with_reducible show NWM _); exact NWM_o (fun o h1 h2 => kp_cls hkA (by rfl) o (by omega) (by omega)) (PN_nwm o_pn hCI))
    | ((with_reducible show LNO _); exact LNO_o (fun o h1 h2 => kp_cls hkA (by rfl) o (by omega) (by omega)) (congrFun (kp_cls hkA (by rfl) 100 (by decide) (by decide)) 7) (PN_lno o_pn))
    | ((with_reducible show FRM _); exact FRM_o (kp_cls hkA (by rfl) 112 (by decide) (by decide)) (kp_cls hkA (by rfl) 101 (by decide) (by decide)) (frm_of o_sn o_rv))
    | refine And.intro ?_ ?_
    | (intro (r : Option PV) σ' hq
       first
       | (obtain ⟨rfl, rfl⟩ := hq)
       | (obtain ⟨rfl, x, rfl, hp⟩ := hq; (try replace hp : _ ∧ _ := hp); (try dsimp only at hp))
       | (obtain ⟨Z', x, rfl, rfl, hI2, hk2, hp⟩ := hq; (try replace hp : _ ∧ _ := hp); (try dsimp only at hp); (first | have hk3 := kp_of hk2 | have hk3 := hk2); (first | have hZ := LI_av hZ hI2 hk3 (by rfl) | skip); (first | have h_dm := RC_dm_av hk3 (by rfl) h_dm | skip); (first | have h_wk := RC_wk_av hk3 (by rfl) h_wk | skip); (first | have h_stG := RC_stG_av hk3 (by rfl) h_stG | skip); (first | have h_sn := RC_sn_av hk3 (by rfl) h_sn | skip); (first | have h_sk := RC_sk_av hk3 (by rfl) h_sk | skip); (first | have h_tx := RC_tx_av hk3 (by rfl) h_tx | skip); (first | have h_pn := RC_pn_av hk3 (by rfl) h_pn | skip); (first | have h_sp := RC_sp_av hk3 (by rfl) h_sp | skip); (first | have h_nr := RC_nr_av hk3 (by rfl) h_nr | skip); (first | have h_rv := RC_rv_av hk3 (by rfl) h_rv | skip); (first | have h_rf := RC_rf_av hk3 (by rfl) h_rf | skip); (first | have h_nf := RC_nf_av hk3 (by rfl) h_nf | skip); (first | have h_nb := RC_nb_av hk3 (by rfl) h_nb | skip); (first | (have hk0 := hkA; clear hk0; have hkB := hk3; (try have hpB := hp); (((have hpA := And.intro hpA.1 (trivial)); (have hkA : kp ([30, 70, 72, 74, 76, 78]) Z _ := kp_mono (by rfl) hkA)); (obtain ⟨hx, h_sn⟩ := cu_rim_sn hpA hpB hkA hkB hCI o_sn; (try dsimp only at hx)))) | (have hkA := hk3; (try have hpA := hp); ((have h_nb : RC_nb _ := hpA.2.1); (have h_rv := cu_rim_rv hpA hkA hCI o_rv)))))
       | (obtain ⟨Z', x, rfl, rfl, hI2, hk2⟩ := hq; (first | have hk3 := kp_of hk2 | have hk3 := hk2); (first | have hZ := LI_av hZ hI2 hk3 (by rfl) | skip); (first | have h_dm := RC_dm_av hk3 (by rfl) h_dm | skip); (first | have h_wk := RC_wk_av hk3 (by rfl) h_wk | skip); (first | have h_stG := RC_stG_av hk3 (by rfl) h_stG | skip); (first | have h_sn := RC_sn_av hk3 (by rfl) h_sn | skip); (first | have h_sk := RC_sk_av hk3 (by rfl) h_sk | skip); (first | have h_tx := RC_tx_av hk3 (by rfl) h_tx | skip); (first | have h_pn := RC_pn_av hk3 (by rfl) h_pn | skip); (first | have h_sp := RC_sp_av hk3 (by rfl) h_sp | skip); (first | have h_nr := RC_nr_av hk3 (by rfl) h_nr | skip); (first | have h_rv := RC_rv_av hk3 (by rfl) h_rv | skip); (first | have h_rf := RC_rf_av hk3 (by rfl) h_rf | skip); (first | have h_nf := RC_nf_av hk3 (by rfl) h_nf | skip); (first | have h_nb := RC_nb_av hk3 (by rfl) h_nb | skip); (first | (have hk0 := hkA; clear hk0; have hkB := hk3; (try have hpB := hp); (((have hpA := And.intro hpA.1 (trivial)); (have hkA : kp ([30, 70, 72, 74, 76, 78]) Z _ := kp_mono (by rfl) hkA)); (obtain ⟨hx, h_sn⟩ := cu_rim_sn hpA hpB hkA hkB hCI o_sn; (try dsimp only at hx)))) | (have hkA := hk3; (try have hpA := hp); ((have h_nb : RC_nb _ := hpA.2.1); (have h_rv := cu_rim_rv hpA hkA hCI o_rv)))))
       | (rcases hq with ⟨Z', rfl, rfl, hI2, hk2⟩ | ⟨Z', rfl, rfl, hI2, hk2⟩ <;> ((first | have hk3 := kp_of hk2 | have hk3 := hk2); (first | have hZ := LI_av hZ hI2 hk3 (by rfl) | skip); (first | have h_dm := RC_dm_av hk3 (by rfl) h_dm | skip); (first | have h_wk := RC_wk_av hk3 (by rfl) h_wk | skip); (first | have h_stG := RC_stG_av hk3 (by rfl) h_stG | skip); (first | have h_sn := RC_sn_av hk3 (by rfl) h_sn | skip); (first | have h_sk := RC_sk_av hk3 (by rfl) h_sk | skip); (first | have h_tx := RC_tx_av hk3 (by rfl) h_tx | skip); (first | have h_pn := RC_pn_av hk3 (by rfl) h_pn | skip); (first | have h_sp := RC_sp_av hk3 (by rfl) h_sp | skip); (first | have h_nr := RC_nr_av hk3 (by rfl) h_nr | skip); (first | have h_rv := RC_rv_av hk3 (by rfl) h_rv | skip); (first | have h_rf := RC_rf_av hk3 (by rfl) h_rf | skip); (first | have h_nf := RC_nf_av hk3 (by rfl) h_nf | skip); (first | have h_nb := RC_nb_av hk3 (by rfl) h_nb | skip); (first | (have hk0 := hkA; clear hk0; have hkB := hk3; (try have hpB := hp); (((have hpA := And.intro hpA.1 (trivial)); (have hkA : kp ([30, 70, 72, 74, 76, 78]) Z _ := kp_mono (by rfl) hkA)); (obtain ⟨hx, h_sn⟩ := cu_rim_sn hpA hpB hkA hkB hCI o_sn; (try dsimp only at hx)))) | (have hkA := hk3; (try have hpA := hp); ((have h_nb : RC_nb _ := hpA.2.1); (have h_rv := cu_rim_rv hpA hkA hCI o_rv))))))
       | (obtain ⟨Z', rfl, rfl, hI2, hk2, hp⟩ := hq; (first | have hk3 := kp_of hk2 | have hk3 := hk2); (first | have hZ := LI_av hZ hI2 hk3 (by rfl) | skip); (first | have h_dm := RC_dm_av hk3 (by rfl) h_dm | skip); (first | have h_wk := RC_wk_av hk3 (by rfl) h_wk | skip); (first | have h_stG := RC_stG_av hk3 (by rfl) h_stG | skip); (first | have h_sn := RC_sn_av hk3 (by rfl) h_sn | skip); (first | have h_sk := RC_sk_av hk3 (by rfl) h_sk | skip); (first | have h_tx := RC_tx_av hk3 (by rfl) h_tx | skip); (first | have h_pn := RC_pn_av hk3 (by rfl) h_pn | skip); (first | have h_sp := RC_sp_av hk3 (by rfl) h_sp | skip); (first | have h_nr := RC_nr_av hk3 (by rfl) h_nr | skip); (first | have h_rv := RC_rv_av hk3 (by rfl) h_rv | skip); (first | have h_rf := RC_rf_av hk3 (by rfl) h_rf | skip); (first | have h_nf := RC_nf_av hk3 (by rfl) h_nf | skip); (first | have h_nb := RC_nb_av hk3 (by rfl) h_nb | skip); (first | (have hk0 := hkA; clear hk0; have hkB := hk3; (try have hpB := hp); (((have hpA := And.intro hpA.1 (trivial)); (have hkA : kp ([30, 70, 72, 74, 76, 78]) Z _ := kp_mono (by rfl) hkA)); (obtain ⟨hx, h_sn⟩ := cu_rim_sn hpA hpB hkA hkB hCI o_sn; (try dsimp only at hx)))) | (have hkA := hk3; (try have hpA := hp); ((have h_nb : RC_nb _ := hpA.2.1); (have h_rv := cu_rim_rv hpA hkA hCI o_rv)))))
       | (obtain ⟨Z', rfl, rfl, hI2, hk2⟩ := hq; (first | have hk3 := kp_of hk2 | have hk3 := hk2); (first | have hZ := LI_av hZ hI2 hk3 (by rfl) | skip); (first | have h_dm := RC_dm_av hk3 (by rfl) h_dm | skip); (first | have h_wk := RC_wk_av hk3 (by rfl) h_wk | skip); (first | have h_stG := RC_stG_av hk3 (by rfl) h_stG | skip); (first | have h_sn := RC_sn_av hk3 (by rfl) h_sn | skip); (first | have h_sk := RC_sk_av hk3 (by rfl) h_sk | skip); (first | have h_tx := RC_tx_av hk3 (by rfl) h_tx | skip); (first | have h_pn := RC_pn_av hk3 (by rfl) h_pn | skip); (first | have h_sp := RC_sp_av hk3 (by rfl) h_sp | skip); (first | have h_nr := RC_nr_av hk3 (by rfl) h_nr | skip); (first | have h_rv := RC_rv_av hk3 (by rfl) h_rv | skip); (first | have h_rf := RC_rf_av hk3 (by rfl) h_rf | skip); (first | have h_nf := RC_nf_av hk3 (by rfl) h_nf | skip); (first | have h_nb := RC_nb_av hk3 (by rfl) h_nb | skip); (first | (have hk0 := hkA; clear hk0; have hkB := hk3; (try have hpB := hp); (((have hpA := And.intro hpA.1 (trivial)); (have hkA : kp ([30, 70, 72, 74, 76, 78]) Z _ := kp_mono (by rfl) hkA)); (obtain ⟨hx, h_sn⟩ := cu_rim_sn hpA hpB hkA hkB hCI o_sn; (try dsimp only at hx)))) | (have hkA := hk3; (try have hpA := hp); ((have h_nb : RC_nb _ := hpA.2.1); (have h_rv := cu_rim_rv hpA hkA hCI o_rv))))))
    | (intro hc; (try simp only [cmp3_c] at hc); simp only [cmpI] at hc; (try (exfalso; omega))))
  all_goals first
    | with_reducible rfl
    | ((with_reducible show recvG _ _); rfl)
    | with_reducible exact trivial
    | ((with_reducible show BYT (bC _)); exact tx_byC h_tx)
    | ((with_reducible show BYT (mB _)); exact tx_byM h_tx)
    | ((with_reducible show PWF _); exact PN_pwf h_pn)
    | ((with_reducible show NBB _); exact o_nb)
    | ((with_reducible show NBF _); exact o_nf)
    | ((with_reducible show NRC _); exact o_nr)
    | ((with_reducible show NBS _); exact nbs_of o_sn o_pn o_nr o_rv o_rf hCI hE1)
    | ((with_reducible show PLH _); exact PLH_o (fun o h1 h2 => kp_cls hkA (by rfl) o (by omega) (by omega)) (PN_plh o_pn hE1 o_rf.1))
    | ((with_reducible show NWM _); exact NWM_o (fun o h1 h2 => kp_cls hkA (by rfl) o (by omega) (by omega)) (PN_nwm o_pn hCI))
    | ((with_reducible show LNO _); exact LNO_o (fun o h1 h2 => kp_cls hkA (by rfl) o (by omega) (by omega)) (congrFun (kp_cls hkA (by rfl) 100 (by decide) (by decide)) 7) (PN_lno o_pn))
    | ((with_reducible show FRM _); exact FRM_o (kp_cls hkA (by rfl) 112 (by decide) (by decide)) (kp_cls hkA (by rfl) 101 (by decide) (by decide)) (frm_of o_sn o_rv))
    | ((with_reducible show CI _); exact hZ.1)
    | ((with_reducible show E1 _); exact hZ.2.1)
    | ((with_reducible show EB _); exact hZ.2.2.1)
    | ((with_reducible show KB _); exact hZ.2.2.2.1)
    | ((with_reducible show KE _); exact hZ.2.2.2.2)
    | (refine hG.2 1299 _ [(0, vr 0), (1, vr 1), (2, vr 100), (3, vi i)] _ _ rfl ?_; exact hE _ hZ ⟨(by assumption), (by assumption), (by assumption), (by assumption), (by assumption), (by assumption), (by assumption), (by assumption), (by assumption), (by assumption), (by assumption), (by assumption), (by assumption), trivial⟩)
    | decide
    | (refine (sx hi hL (k := 0) (by decide) ?_).1; simp (disch := omega) only [w32_id]; omega)
    | (with_reducible refine (sx hi hL ?_ rfl).1; decide)
    | (with_reducible refine (sx hi hL ?_ rfl).2; decide)
    | omega
    | (dsimp only; omega)
    | (exfalso; omega)
    | rfl
    | skip

set_option maxRecDepth 100000 in
set_option maxHeartbeats 40000000 in
theorem lc_3 {L : Nat} {xs : Nat → Int} {G : GT} (hG : Clo MCL 130 (some (L, xs)) QL G) {i : Int} (hi : 0 ≤ i ∧ i + 7 ≤ (L : Int)) (hL : L ≤ 3584) {Z : ZT} (hZ : LI Z) (hR : RLX Z) (hE : ∀ Z1, LI Z1 → RLX Z1 → G 1299 [(0, vr 0), (1, vr 1), (2, vr 100), (3, vi i)] [] (130, Z1, R0)) : G 279 [(0, vr 0), (1, vr 1), (2, vr 100), (3, vi i)] [] (130, Z, R0) := by
  obtain ⟨h_dm, h_wk, h_stG, h_sn, h_sk, h_tx, h_pn, h_sp, h_nr, h_rv, h_rf, h_nf, h_nb, -⟩ := hR
  have o_dm := h_dm
  have o_wk := h_wk
  have o_stG := h_stG
  have o_sn := h_sn
  have o_sk := h_sk
  have o_tx := h_tx
  have o_pn := h_pn
  have o_sp := h_sp
  have o_nr := h_nr
  have o_rv := h_rv
  have o_rf := h_rf
  have o_nf := h_nf
  have o_nb := h_nb
  have hCI := hZ.1
  have hp0 : 0 ≤ Z 18 4 ∧ Z 18 4 ≤ 12 := by (have q := hCI 100 19 0 12 rfl; have q2 := h_sn; unfold RC_sn at q2; omega)
  have htx0 : 0 ≤ Z 6 1 ∧ Z 6 1 ≤ 160 := by (have q := hCI 100 5 0 160 rfl; have q2 := h_tx.1; omega)
  have hE1 := hZ.2.1
  have hed : 0 ≤ Z 18 3 ∧ Z 18 3 ≤ 2 := by (have q := hCI 100 2 0 2 rfl; have q2 := h_sn; unfold RC_sn at q2; omega)
  have hek := ek_of h_sk hZ.2.2.2.1
  refine wp_run hG [1299] 200 _ _ _ _ ?_
  repeat' (first
    | with_reducible rfl
    | ((with_reducible show BYT (bC _)); exact tx_byC h_tx)
    | ((with_reducible show BYT (mB _)); exact tx_byM h_tx)
    | ((with_reducible show PWF _); exact PN_pwf h_pn)
    | ((with_reducible show NBB _); exact o_nb)
    | ((with_reducible show NBF _); exact o_nf)
    | ((with_reducible show NRC _); exact o_nr)
    | ((with_reducible show NBS _); exact nbs_of o_sn o_pn o_nr o_rv o_rf hCI hE1)
    | ((with_reducible show PLH _); exact PLH_o (fun o h1 h2 => kp_cls hkA (by rfl) o (by omega) (by omega)) (PN_plh o_pn hE1 o_rf.1))
    | ((with_reducible show NWM _); exact NWM_o (fun o h1 h2 => kp_cls hkA (by rfl) o (by omega) (by omega)) (PN_nwm o_pn hCI))
    | ((with_reducible show LNO _); exact LNO_o (fun o h1 h2 => kp_cls hkA (by rfl) o (by omega) (by omega)) (congrFun (kp_cls hkA (by rfl) 100 (by decide) (by decide)) 7) (PN_lno o_pn))
    | ((with_reducible show FRM _); exact FRM_o (kp_cls hkA (by rfl) 112 (by decide) (by decide)) (kp_cls hkA (by rfl) 101 (by decide) (by decide)) (frm_of o_sn o_rv))
    | refine And.intro ?_ ?_
    | (intro (r : Option PV) σ' hq
       first
       | (obtain ⟨rfl, rfl⟩ := hq)
       | (obtain ⟨rfl, x, rfl, hp⟩ := hq; (try replace hp : _ ∧ _ := hp); (try dsimp only at hp))
       | (obtain ⟨Z', x, rfl, rfl, hI2, hk2, hp⟩ := hq; (try replace hp : _ ∧ _ := hp); (try dsimp only at hp); (first | have hk3 := kp_of hk2 | have hk3 := hk2); (first | have hZ := LI_av hZ hI2 hk3 (by rfl) | skip); (first | have h_dm := RC_dm_av hk3 (by rfl) h_dm | skip); (first | have h_wk := RC_wk_av hk3 (by rfl) h_wk | skip); (first | have h_stG := RC_stG_av hk3 (by rfl) h_stG | skip); (first | have h_sn := RC_sn_av hk3 (by rfl) h_sn | skip); (first | have h_sk := RC_sk_av hk3 (by rfl) h_sk | skip); (first | have h_tx := RC_tx_av hk3 (by rfl) h_tx | skip); (first | have h_pn := RC_pn_av hk3 (by rfl) h_pn | skip); (first | have h_sp := RC_sp_av hk3 (by rfl) h_sp | skip); (first | have h_nr := RC_nr_av hk3 (by rfl) h_nr | skip); (first | have h_rv := RC_rv_av hk3 (by rfl) h_rv | skip); (first | have h_rf := RC_rf_av hk3 (by rfl) h_rf | skip); (first | have h_nf := RC_nf_av hk3 (by rfl) h_nf | skip); (first | have h_nb := RC_nb_av hk3 (by rfl) h_nb | skip); (first | (have hk0 := hkA; clear hk0; have hkB := hk3; (try have hpB := hp); (obtain ⟨hx, h_tx⟩ := cu_write_tx hpA hpB hkA hkB hCI o_tx; (try dsimp only at hx))) | (have hkA := hk3; (try have hpA := hp); skip)))
       | (obtain ⟨Z', x, rfl, rfl, hI2, hk2⟩ := hq; (first | have hk3 := kp_of hk2 | have hk3 := hk2); (first | have hZ := LI_av hZ hI2 hk3 (by rfl) | skip); (first | have h_dm := RC_dm_av hk3 (by rfl) h_dm | skip); (first | have h_wk := RC_wk_av hk3 (by rfl) h_wk | skip); (first | have h_stG := RC_stG_av hk3 (by rfl) h_stG | skip); (first | have h_sn := RC_sn_av hk3 (by rfl) h_sn | skip); (first | have h_sk := RC_sk_av hk3 (by rfl) h_sk | skip); (first | have h_tx := RC_tx_av hk3 (by rfl) h_tx | skip); (first | have h_pn := RC_pn_av hk3 (by rfl) h_pn | skip); (first | have h_sp := RC_sp_av hk3 (by rfl) h_sp | skip); (first | have h_nr := RC_nr_av hk3 (by rfl) h_nr | skip); (first | have h_rv := RC_rv_av hk3 (by rfl) h_rv | skip); (first | have h_rf := RC_rf_av hk3 (by rfl) h_rf | skip); (first | have h_nf := RC_nf_av hk3 (by rfl) h_nf | skip); (first | have h_nb := RC_nb_av hk3 (by rfl) h_nb | skip); (first | (have hk0 := hkA; clear hk0; have hkB := hk3; (try have hpB := hp); (obtain ⟨hx, h_tx⟩ := cu_write_tx hpA hpB hkA hkB hCI o_tx; (try dsimp only at hx))) | (have hkA := hk3; (try have hpA := hp); skip)))
       | (rcases hq with ⟨Z', rfl, rfl, hI2, hk2⟩ | ⟨Z', rfl, rfl, hI2, hk2⟩ <;> ((first | have hk3 := kp_of hk2 | have hk3 := hk2); (first | have hZ := LI_av hZ hI2 hk3 (by rfl) | skip); (first | have h_dm := RC_dm_av hk3 (by rfl) h_dm | skip); (first | have h_wk := RC_wk_av hk3 (by rfl) h_wk | skip); (first | have h_stG := RC_stG_av hk3 (by rfl) h_stG | skip); (first | have h_sn := RC_sn_av hk3 (by rfl) h_sn | skip); (first | have h_sk := RC_sk_av hk3 (by rfl) h_sk | skip); (first | have h_tx := RC_tx_av hk3 (by rfl) h_tx | skip); (first | have h_pn := RC_pn_av hk3 (by rfl) h_pn | skip); (first | have h_sp := RC_sp_av hk3 (by rfl) h_sp | skip); (first | have h_nr := RC_nr_av hk3 (by rfl) h_nr | skip); (first | have h_rv := RC_rv_av hk3 (by rfl) h_rv | skip); (first | have h_rf := RC_rf_av hk3 (by rfl) h_rf | skip); (first | have h_nf := RC_nf_av hk3 (by rfl) h_nf | skip); (first | have h_nb := RC_nb_av hk3 (by rfl) h_nb | skip); (first | (have hk0 := hkA; clear hk0; have hkB := hk3; (try have hpB := hp); (obtain ⟨hx, h_tx⟩ := cu_write_tx hpA hpB hkA hkB hCI o_tx; (try dsimp only at hx))) | (have hkA := hk3; (try have hpA := hp); skip))))
       | (obtain ⟨Z', rfl, rfl, hI2, hk2, hp⟩ := hq; (first | have hk3 := kp_of hk2 | have hk3 := hk2); (first | have hZ := LI_av hZ hI2 hk3 (by rfl) | skip); (first | have h_dm := RC_dm_av hk3 (by rfl) h_dm | skip); (first | have h_wk := RC_wk_av hk3 (by rfl) h_wk | skip); (first | have h_stG := RC_stG_av hk3 (by rfl) h_stG | skip); (first | have h_sn := RC_sn_av hk3 (by rfl) h_sn | skip); (first | have h_sk := RC_sk_av hk3 (by rfl) h_sk | skip); (first | have h_tx := RC_tx_av hk3 (by rfl) h_tx | skip); (first | have h_pn := RC_pn_av hk3 (by rfl) h_pn | skip); (first | have h_sp := RC_sp_av hk3 (by rfl) h_sp | skip); (first | have h_nr := RC_nr_av hk3 (by rfl) h_nr | skip); (first | have h_rv := RC_rv_av hk3 (by rfl) h_rv | skip); (first | have h_rf := RC_rf_av hk3 (by rfl) h_rf | skip); (first | have h_nf := RC_nf_av hk3 (by rfl) h_nf | skip); (first | have h_nb := RC_nb_av hk3 (by rfl) h_nb | skip); (first | (have hk0 := hkA; clear hk0; have hkB := hk3; (try have hpB := hp); (obtain ⟨hx, h_tx⟩ := cu_write_tx hpA hpB hkA hkB hCI o_tx; (try dsimp only at hx))) | (have hkA := hk3; (try have hpA := hp); skip)))
       | (obtain ⟨Z', rfl, rfl, hI2, hk2⟩ := hq; (first | have hk3 := kp_of hk2 | have hk3 := hk2); (first | have hZ := LI_av hZ hI2 hk3 (by rfl) | skip); (first | have h_dm := RC_dm_av hk3 (by rfl) h_dm | skip); (first | have h_wk := RC_wk_av hk3 (by rfl) h_wk | skip); (first | have h_stG := RC_stG_av hk3 (by rfl) h_stG | skip); (first | have h_sn := RC_sn_av hk3 (by rfl) h_sn | skip); (first | have h_sk := RC_sk_av hk3 (by rfl) h_sk | skip); (first | have h_tx := RC_tx_av hk3 (by rfl) h_tx | skip); (first | have h_pn := RC_pn_av hk3 (by rfl) h_pn | skip); (first | have h_sp := RC_sp_av hk3 (by rfl) h_sp | skip); (first | have h_nr := RC_nr_av hk3 (by rfl) h_nr | skip); (first | have h_rv := RC_rv_av hk3 (by rfl) h_rv | skip); (first | have h_rf := RC_rf_av hk3 (by rfl) h_rf | skip); (first | have h_nf := RC_nf_av hk3 (by rfl) h_nf | skip); (first | have h_nb := RC_nb_av hk3 (by rfl) h_nb | skip); (first | (have hk0 := hkA; clear hk0; have hkB := hk3; (try have hpB := hp); (obtain ⟨hx, h_tx⟩ := cu_write_tx hpA hpB hkA hkB hCI o_tx; (try dsimp only at hx))) | (have hkA := hk3; (try have hpA := hp); skip))))
    | (intro hc; (try simp only [cmp3_c] at hc); simp only [cmpI] at hc; (try (exfalso; omega))))
  all_goals first
    | with_reducible rfl
    | ((with_reducible show recvG _ _); rfl)
    | with_reducible exact trivial
    | ((with_reducible show BYT (bC _)); exact tx_byC h_tx)
    | ((with_reducible show BYT (mB _)); exact tx_byM h_tx)
    | ((with_reducible show PWF _); exact PN_pwf h_pn)
    | ((with_reducible show NBB _); exact o_nb)
    | ((with_reducible show NBF _); exact o_nf)
    | ((with_reducible show NRC _); exact o_nr)
    | ((with_reducible show NBS _); exact nbs_of o_sn o_pn o_nr o_rv o_rf hCI hE1)
    | ((with_reducible show PLH _); exact PLH_o (fun o h1 h2 => kp_cls hkA (by rfl) o (by omega) (by omega)) (PN_plh o_pn hE1 o_rf.1))
    | ((with_reducible show NWM _); exact NWM_o (fun o h1 h2 => kp_cls hkA (by rfl) o (by omega) (by omega)) (PN_nwm o_pn hCI))
    | ((with_reducible show LNO _); exact LNO_o (fun o h1 h2 => kp_cls hkA (by rfl) o (by omega) (by omega)) (congrFun (kp_cls hkA (by rfl) 100 (by decide) (by decide)) 7) (PN_lno o_pn))
    | ((with_reducible show FRM _); exact FRM_o (kp_cls hkA (by rfl) 112 (by decide) (by decide)) (kp_cls hkA (by rfl) 101 (by decide) (by decide)) (frm_of o_sn o_rv))
    | ((with_reducible show CI _); exact hZ.1)
    | ((with_reducible show E1 _); exact hZ.2.1)
    | ((with_reducible show EB _); exact hZ.2.2.1)
    | ((with_reducible show KB _); exact hZ.2.2.2.1)
    | ((with_reducible show KE _); exact hZ.2.2.2.2)
    | (refine hG.2 1299 _ [(0, vr 0), (1, vr 1), (2, vr 100), (3, vi i)] _ _ rfl ?_; exact hE _ hZ ⟨(by assumption), (by assumption), (by assumption), (by assumption), (by assumption), (by assumption), (by assumption), (by assumption), (by assumption), (by assumption), (by assumption), (by assumption), (by assumption), trivial⟩)
    | decide
    | (refine (sx hi hL (k := 0) (by decide) ?_).1; simp (disch := omega) only [w32_id]; omega)
    | (with_reducible refine (sx hi hL ?_ rfl).1; decide)
    | (with_reducible refine (sx hi hL ?_ rfl).2; decide)
    | omega
    | (dsimp only; omega)
    | (exfalso; omega)
    | rfl
    | skip

set_option maxRecDepth 100000 in
set_option maxHeartbeats 40000000 in
theorem lc_4 {L : Nat} {xs : Nat → Int} {G : GT} (hG : Clo MCL 130 (some (L, xs)) QL G) {i : Int} (hi : 0 ≤ i ∧ i + 7 ≤ (L : Int)) (hL : L ≤ 3584) {Z : ZT} (hZ : LI Z) (hR : RLX Z) (hE : ∀ Z1, LI Z1 → RLX Z1 → G 1299 [(0, vr 0), (1, vr 1), (2, vr 100), (3, vi i)] [] (130, Z1, R0)) : G 342 [(0, vr 0), (1, vr 1), (2, vr 100), (3, vi i)] [] (130, Z, R0) := by
  obtain ⟨h_dm, h_wk, h_stG, h_sn, h_sk, h_tx, h_pn, h_sp, h_nr, h_rv, h_rf, h_nf, h_nb, -⟩ := hR
  have o_dm := h_dm
  have o_wk := h_wk
  have o_stG := h_stG
  have o_sn := h_sn
  have o_sk := h_sk
  have o_tx := h_tx
  have o_pn := h_pn
  have o_sp := h_sp
  have o_nr := h_nr
  have o_rv := h_rv
  have o_rf := h_rf
  have o_nf := h_nf
  have o_nb := h_nb
  have hCI := hZ.1
  have hp0 : 0 ≤ Z 18 4 ∧ Z 18 4 ≤ 12 := by (have q := hCI 100 19 0 12 rfl; have q2 := h_sn; unfold RC_sn at q2; omega)
  have htx0 : 0 ≤ Z 6 1 ∧ Z 6 1 ≤ 160 := by (have q := hCI 100 5 0 160 rfl; have q2 := h_tx.1; omega)
  have hE1 := hZ.2.1
  have hed : 0 ≤ Z 18 3 ∧ Z 18 3 ≤ 2 := by (have q := hCI 100 2 0 2 rfl; have q2 := h_sn; unfold RC_sn at q2; omega)
  have hek := ek_of h_sk hZ.2.2.2.1
  refine wp_run hG [1299] 200 _ _ _ _ ?_
  repeat' (first
    | with_reducible rfl
    | ((with_reducible show BYT (bC _)); exact tx_byC h_tx)
    | ((with_reducible show BYT (mB _)); exact tx_byM h_tx)
    | ((with_reducible show PWF _); exact PN_pwf h_pn)
    | ((with_reducible show NBB _); exact o_nb)
    | ((with_reducible show NBF _); exact o_nf)
    | ((with_reducible show NRC _); exact o_nr)
    | ((with_reducible show NBS _); exact nbs_of o_sn o_pn o_nr o_rv o_rf hCI hE1)
    | ((with_reducible show PLH _); exact PLH_o (fun o h1 h2 => kp_cls hkA (by rfl) o (by omega) (by omega)) (PN_plh o_pn hE1 o_rf.1))
    | ((with_reducible show NWM _); exact NWM_o (fun o h1 h2 => kp_cls hkA (by rfl) o (by omega) (by omega)) (PN_nwm o_pn hCI))
    | ((with_reducible show LNO _); exact LNO_o (fun o h1 h2 => kp_cls hkA (by rfl) o (by omega) (by omega)) (congrFun (kp_cls hkA (by rfl) 100 (by decide) (by decide)) 7) (PN_lno o_pn))
    | ((with_reducible show FRM _); exact FRM_o (kp_cls hkA (by rfl) 112 (by decide) (by decide)) (kp_cls hkA (by rfl) 101 (by decide) (by decide)) (frm_of o_sn o_rv))
    | refine And.intro ?_ ?_
    | (intro (r : Option PV) σ' hq
       first
       | (obtain ⟨rfl, rfl⟩ := hq)
       | (obtain ⟨rfl, x, rfl, hp⟩ := hq; (try replace hp : _ ∧ _ := hp); (try dsimp only at hp))
       | (obtain ⟨Z', x, rfl, rfl, hI2, hk2, hp⟩ := hq; (try replace hp : _ ∧ _ := hp); (try dsimp only at hp); (first | have hk3 := kp_of hk2 | have hk3 := hk2); (first | have hZ := LI_av hZ hI2 hk3 (by rfl) | skip); (first | have h_dm := RC_dm_av hk3 (by rfl) h_dm | skip); (first | have h_wk := RC_wk_av hk3 (by rfl) h_wk | skip); (first | have h_stG := RC_stG_av hk3 (by rfl) h_stG | skip); (first | have h_sn := RC_sn_av hk3 (by rfl) h_sn | skip); (first | have h_sk := RC_sk_av hk3 (by rfl) h_sk | skip); (first | have h_tx := RC_tx_av hk3 (by rfl) h_tx | skip); (first | have h_pn := RC_pn_av hk3 (by rfl) h_pn | skip); (first | have h_sp := RC_sp_av hk3 (by rfl) h_sp | skip); (first | have h_nr := RC_nr_av hk3 (by rfl) h_nr | skip); (first | have h_rv := RC_rv_av hk3 (by rfl) h_rv | skip); (first | have h_rf := RC_rf_av hk3 (by rfl) h_rf | skip); (first | have h_nf := RC_nf_av hk3 (by rfl) h_nf | skip); (first | have h_nb := RC_nb_av hk3 (by rfl) h_nb | skip); (first | (have hk0 := hkA; clear hk0; have hkB := hk3; (try have hpB := hp); (obtain ⟨hx, h_tx⟩ := cu_wipe_tx hpA hpB hkA hkB hCI o_tx; (try dsimp only at hx))) | (have hkA := hk3; (try have hpA := hp); skip)))
       | (obtain ⟨Z', x, rfl, rfl, hI2, hk2⟩ := hq; (first | have hk3 := kp_of hk2 | have hk3 := hk2); (first | have hZ := LI_av hZ hI2 hk3 (by rfl) | skip); (first | have h_dm := RC_dm_av hk3 (by rfl) h_dm | skip); (first | have h_wk := RC_wk_av hk3 (by rfl) h_wk | skip); (first | have h_stG := RC_stG_av hk3 (by rfl) h_stG | skip); (first | have h_sn := RC_sn_av hk3 (by rfl) h_sn | skip); (first | have h_sk := RC_sk_av hk3 (by rfl) h_sk | skip); (first | have h_tx := RC_tx_av hk3 (by rfl) h_tx | skip); (first | have h_pn := RC_pn_av hk3 (by rfl) h_pn | skip); (first | have h_sp := RC_sp_av hk3 (by rfl) h_sp | skip); (first | have h_nr := RC_nr_av hk3 (by rfl) h_nr | skip); (first | have h_rv := RC_rv_av hk3 (by rfl) h_rv | skip); (first | have h_rf := RC_rf_av hk3 (by rfl) h_rf | skip); (first | have h_nf := RC_nf_av hk3 (by rfl) h_nf | skip); (first | have h_nb := RC_nb_av hk3 (by rfl) h_nb | skip); (first | (have hk0 := hkA; clear hk0; have hkB := hk3; (try have hpB := hp); (obtain ⟨hx, h_tx⟩ := cu_wipe_tx hpA hpB hkA hkB hCI o_tx; (try dsimp only at hx))) | (have hkA := hk3; (try have hpA := hp); skip)))
       | (rcases hq with ⟨Z', rfl, rfl, hI2, hk2⟩ | ⟨Z', rfl, rfl, hI2, hk2⟩ <;> ((first | have hk3 := kp_of hk2 | have hk3 := hk2); (first | have hZ := LI_av hZ hI2 hk3 (by rfl) | skip); (first | have h_dm := RC_dm_av hk3 (by rfl) h_dm | skip); (first | have h_wk := RC_wk_av hk3 (by rfl) h_wk | skip); (first | have h_stG := RC_stG_av hk3 (by rfl) h_stG | skip); (first | have h_sn := RC_sn_av hk3 (by rfl) h_sn | skip); (first | have h_sk := RC_sk_av hk3 (by rfl) h_sk | skip); (first | have h_tx := RC_tx_av hk3 (by rfl) h_tx | skip); (first | have h_pn := RC_pn_av hk3 (by rfl) h_pn | skip); (first | have h_sp := RC_sp_av hk3 (by rfl) h_sp | skip); (first | have h_nr := RC_nr_av hk3 (by rfl) h_nr | skip); (first | have h_rv := RC_rv_av hk3 (by rfl) h_rv | skip); (first | have h_rf := RC_rf_av hk3 (by rfl) h_rf | skip); (first | have h_nf := RC_nf_av hk3 (by rfl) h_nf | skip); (first | have h_nb := RC_nb_av hk3 (by rfl) h_nb | skip); (first | (have hk0 := hkA; clear hk0; have hkB := hk3; (try have hpB := hp); (obtain ⟨hx, h_tx⟩ := cu_wipe_tx hpA hpB hkA hkB hCI o_tx; (try dsimp only at hx))) | (have hkA := hk3; (try have hpA := hp); skip))))
       | (obtain ⟨Z', rfl, rfl, hI2, hk2, hp⟩ := hq; (first | have hk3 := kp_of hk2 | have hk3 := hk2); (first | have hZ := LI_av hZ hI2 hk3 (by rfl) | skip); (first | have h_dm := RC_dm_av hk3 (by rfl) h_dm | skip); (first | have h_wk := RC_wk_av hk3 (by rfl) h_wk | skip); (first | have h_stG := RC_stG_av hk3 (by rfl) h_stG | skip); (first | have h_sn := RC_sn_av hk3 (by rfl) h_sn | skip); (first | have h_sk := RC_sk_av hk3 (by rfl) h_sk | skip); (first | have h_tx := RC_tx_av hk3 (by rfl) h_tx | skip); (first | have h_pn := RC_pn_av hk3 (by rfl) h_pn | skip); (first | have h_sp := RC_sp_av hk3 (by rfl) h_sp | skip); (first | have h_nr := RC_nr_av hk3 (by rfl) h_nr | skip); (first | have h_rv := RC_rv_av hk3 (by rfl) h_rv | skip); (first | have h_rf := RC_rf_av hk3 (by rfl) h_rf | skip); (first | have h_nf := RC_nf_av hk3 (by rfl) h_nf | skip); (first | have h_nb := RC_nb_av hk3 (by rfl) h_nb | skip); (first | (have hk0 := hkA; clear hk0; have hkB := hk3; (try have hpB := hp); (obtain ⟨hx, h_tx⟩ := cu_wipe_tx hpA hpB hkA hkB hCI o_tx; (try dsimp only at hx))) | (have hkA := hk3; (try have hpA := hp); skip)))
       | (obtain ⟨Z', rfl, rfl, hI2, hk2⟩ := hq; (first | have hk3 := kp_of hk2 | have hk3 := hk2); (first | have hZ := LI_av hZ hI2 hk3 (by rfl) | skip); (first | have h_dm := RC_dm_av hk3 (by rfl) h_dm | skip); (first | have h_wk := RC_wk_av hk3 (by rfl) h_wk | skip); (first | have h_stG := RC_stG_av hk3 (by rfl) h_stG | skip); (first | have h_sn := RC_sn_av hk3 (by rfl) h_sn | skip); (first | have h_sk := RC_sk_av hk3 (by rfl) h_sk | skip); (first | have h_tx := RC_tx_av hk3 (by rfl) h_tx | skip); (first | have h_pn := RC_pn_av hk3 (by rfl) h_pn | skip); (first | have h_sp := RC_sp_av hk3 (by rfl) h_sp | skip); (first | have h_nr := RC_nr_av hk3 (by rfl) h_nr | skip); (first | have h_rv := RC_rv_av hk3 (by rfl) h_rv | skip); (first | have h_rf := RC_rf_av hk3 (by rfl) h_rf | skip); (first | have h_nf := RC_nf_av hk3 (by rfl) h_nf | skip); (first | have h_nb := RC_nb_av hk3 (by rfl) h_nb | skip); (first | (have hk0 := hkA; clear hk0; have hkB := hk3; (try have hpB := hp); (obtain ⟨hx, h_tx⟩ := cu_wipe_tx hpA hpB hkA hkB hCI o_tx; (try dsimp only at hx))) | (have hkA := hk3; (try have hpA := hp); skip))))
    | (intro hc; (try simp only [cmp3_c] at hc); simp only [cmpI] at hc; (try (exfalso; omega))))
  all_goals first
    | with_reducible rfl
    | ((with_reducible show recvG _ _); rfl)
    | with_reducible exact trivial
    | ((with_reducible show BYT (bC _)); exact tx_byC h_tx)
    | ((with_reducible show BYT (mB _)); exact tx_byM h_tx)
    | ((with_reducible show PWF _); exact PN_pwf h_pn)
    | ((with_reducible show NBB _); exact o_nb)
    | ((with_reducible show NBF _); exact o_nf)
    | ((with_reducible show NRC _); exact o_nr)
    | ((with_reducible show NBS _); exact nbs_of o_sn o_pn o_nr o_rv o_rf hCI hE1)
    | ((with_reducible show PLH _); exact PLH_o (fun o h1 h2 => kp_cls hkA (by rfl) o (by omega) (by omega)) (PN_plh o_pn hE1 o_rf.1))
    | ((with_reducible show NWM _); exact NWM_o (fun o h1 h2 => kp_cls hkA (by rfl) o (by omega) (by omega)) (PN_nwm o_pn hCI))
    | ((with_reducible show LNO _); exact LNO_o (fun o h1 h2 => kp_cls hkA (by rfl) o (by omega) (by omega)) (congrFun (kp_cls hkA (by rfl) 100 (by decide) (by decide)) 7) (PN_lno o_pn))
    | ((with_reducible show FRM _); exact FRM_o (kp_cls hkA (by rfl) 112 (by decide) (by decide)) (kp_cls hkA (by rfl) 101 (by decide) (by decide)) (frm_of o_sn o_rv))
    | ((with_reducible show CI _); exact hZ.1)
    | ((with_reducible show E1 _); exact hZ.2.1)
    | ((with_reducible show EB _); exact hZ.2.2.1)
    | ((with_reducible show KB _); exact hZ.2.2.2.1)
    | ((with_reducible show KE _); exact hZ.2.2.2.2)
    | (refine hG.2 1299 _ [(0, vr 0), (1, vr 1), (2, vr 100), (3, vi i)] _ _ rfl ?_; exact hE _ hZ ⟨(by assumption), (by assumption), (by assumption), (by assumption), (by assumption), (by assumption), (by assumption), (by assumption), (by assumption), (by assumption), (by assumption), (by assumption), (by assumption), trivial⟩)
    | decide
    | (refine (sx hi hL (k := 0) (by decide) ?_).1; simp (disch := omega) only [w32_id]; omega)
    | (with_reducible refine (sx hi hL ?_ rfl).1; decide)
    | (with_reducible refine (sx hi hL ?_ rfl).2; decide)
    | omega
    | (dsimp only; omega)
    | (exfalso; omega)
    | rfl
    | skip

set_option maxRecDepth 100000 in
set_option maxHeartbeats 40000000 in
theorem lc_5 {L : Nat} {xs : Nat → Int} {G : GT} (hG : Clo MCL 130 (some (L, xs)) QL G) {i : Int} (hi : 0 ≤ i ∧ i + 7 ≤ (L : Int)) (hL : L ≤ 3584) {Z : ZT} (hZ : LI Z) (hR : RLX Z) (hE : ∀ Z1, LI Z1 → RLX Z1 → G 1299 [(0, vr 0), (1, vr 1), (2, vr 100), (3, vi i)] [] (130, Z1, R0)) : G 355 [(0, vr 0), (1, vr 1), (2, vr 100), (3, vi i)] [] (130, Z, R0) := by
  obtain ⟨h_dm, h_wk, h_stG, h_sn, h_sk, h_tx, h_pn, h_sp, h_nr, h_rv, h_rf, h_nf, h_nb, -⟩ := hR
  have o_dm := h_dm
  have o_wk := h_wk
  have o_stG := h_stG
  have o_sn := h_sn
  have o_sk := h_sk
  have o_tx := h_tx
  have o_pn := h_pn
  have o_sp := h_sp
  have o_nr := h_nr
  have o_rv := h_rv
  have o_rf := h_rf
  have o_nf := h_nf
  have o_nb := h_nb
  have hCI := hZ.1
  have hp0 : 0 ≤ Z 18 4 ∧ Z 18 4 ≤ 12 := by (have q := hCI 100 19 0 12 rfl; have q2 := h_sn; unfold RC_sn at q2; omega)
  have htx0 : 0 ≤ Z 6 1 ∧ Z 6 1 ≤ 160 := by (have q := hCI 100 5 0 160 rfl; have q2 := h_tx.1; omega)
  have hE1 := hZ.2.1
  have hed : 0 ≤ Z 18 3 ∧ Z 18 3 ≤ 2 := by (have q := hCI 100 2 0 2 rfl; have q2 := h_sn; unfold RC_sn at q2; omega)
  have hek := ek_of h_sk hZ.2.2.2.1
  refine wp_run hG [1299] 200 _ _ _ _ ?_
  repeat' (first
    | with_reducible rfl
    | ((with_reducible show BYT (bC _)); exact tx_byC h_tx)
    | ((with_reducible show BYT (mB _)); exact tx_byM h_tx)
    | ((with_reducible show PWF _); exact PN_pwf h_pn)
    | ((with_reducible show NBB _); exact o_nb)
    | ((with_reducible show NBF _); exact o_nf)
    | ((with_reducible show NRC _); exact o_nr)
    | ((with_reducible show NBS _); exact nbs_of o_sn o_pn o_nr o_rv o_rf hCI hE1)
    | ((with_reducible show PLH _); exact PLH_o (fun o h1 h2 => kp_cls hkA (by rfl) o (by omega) (by omega)) (PN_plh o_pn hE1 o_rf.1))
    | ((with_reducible show NWM _); exact NWM_o (fun o h1 h2 => kp_cls hkA (by rfl) o (by omega) (by omega)) (PN_nwm o_pn hCI))
    | ((with_reducible show LNO _); exact LNO_o (fun o h1 h2 => kp_cls hkA (by rfl) o (by omega) (by omega)) (congrFun (kp_cls hkA (by rfl) 100 (by decide) (by decide)) 7) (PN_lno o_pn))
    | ((with_reducible show FRM _); exact FRM_o (kp_cls hkA (by rfl) 112 (by decide) (by decide)) (kp_cls hkA (by rfl) 101 (by decide) (by decide)) (frm_of o_sn o_rv))
    | refine And.intro ?_ ?_
    | (intro (r : Option PV) σ' hq
       first
       | (obtain ⟨rfl, rfl⟩ := hq)
       | (obtain ⟨rfl, x, rfl, hp⟩ := hq; (try replace hp : _ ∧ _ := hp); (try dsimp only at hp))
       | (obtain ⟨Z', x, rfl, rfl, hI2, hk2, hp⟩ := hq; (try replace hp : _ ∧ _ := hp); (try dsimp only at hp); (first | have hk3 := kp_of hk2 | have hk3 := hk2); (first | have hZ := LI_av hZ hI2 hk3 (by rfl) | have hZ := LI_e1 hZ hI2 hk3 hp.1 (by rfl) | skip); (first | have h_dm := RC_dm_av hk3 (by rfl) h_dm | skip); (first | have h_wk := RC_wk_av hk3 (by rfl) h_wk | skip); (first | have h_stG := RC_stG_av hk3 (by rfl) h_stG | skip); (first | have h_sn := RC_sn_av hk3 (by rfl) h_sn | skip); (first | have h_sk := RC_sk_av hk3 (by rfl) h_sk | skip); (first | have h_tx := RC_tx_av hk3 (by rfl) h_tx | skip); (first | have h_pn := RC_pn_av hk3 (by rfl) h_pn | skip); (first | have h_sp := RC_sp_av hk3 (by rfl) h_sp | skip); (first | have h_nr := RC_nr_av hk3 (by rfl) h_nr | skip); (first | have h_rv := RC_rv_av hk3 (by rfl) h_rv | skip); (first | have h_rf := RC_rf_av hk3 (by rfl) h_rf | skip); (first | have h_nf := RC_nf_av hk3 (by rfl) h_nf | skip); (first | have h_nb := RC_nb_av hk3 (by rfl) h_nb | skip); (first | (have hk0 := hkA; clear hk0; have hkB := hk3; (try have hpB := hp); (have hx := cu_fault hpA hpB hkA hkB hCI o_tx; (try dsimp only at hx); have h_pn := cu_fault_pn hpA hpB hkA hkB hCI o_pn)) | (have hkA := hk3; (try have hpA := hp); skip)))
       | (obtain ⟨Z', x, rfl, rfl, hI2, hk2⟩ := hq; (first | have hk3 := kp_of hk2 | have hk3 := hk2); (first | have hZ := LI_av hZ hI2 hk3 (by rfl) | have hZ := LI_e1 hZ hI2 hk3 hp.1 (by rfl) | skip); (first | have h_dm := RC_dm_av hk3 (by rfl) h_dm | skip); (first | have h_wk := RC_wk_av hk3 (by rfl) h_wk | skip); (first | have h_stG := RC_stG_av hk3 (by rfl) h_stG | skip); (first | have h_sn := RC_sn_av hk3 (by rfl) h_sn | skip); (first | have h_sk := RC_sk_av hk3 (by rfl) h_sk | skip); (first | have h_tx := RC_tx_av hk3 (by rfl) h_tx | skip); (first | have h_pn := RC_pn_av hk3 (by rfl) h_pn | skip); (first | have h_sp := RC_sp_av hk3 (by rfl) h_sp | skip); (first | have h_nr := RC_nr_av hk3 (by rfl) h_nr | skip); (first | have h_rv := RC_rv_av hk3 (by rfl) h_rv | skip); (first | have h_rf := RC_rf_av hk3 (by rfl) h_rf | skip); (first | have h_nf := RC_nf_av hk3 (by rfl) h_nf | skip); (first | have h_nb := RC_nb_av hk3 (by rfl) h_nb | skip); (first | (have hk0 := hkA; clear hk0; have hkB := hk3; (try have hpB := hp); (have hx := cu_fault hpA hpB hkA hkB hCI o_tx; (try dsimp only at hx); have h_pn := cu_fault_pn hpA hpB hkA hkB hCI o_pn)) | (have hkA := hk3; (try have hpA := hp); skip)))
       | (rcases hq with ⟨Z', rfl, rfl, hI2, hk2⟩ | ⟨Z', rfl, rfl, hI2, hk2⟩ <;> ((first | have hk3 := kp_of hk2 | have hk3 := hk2); (first | have hZ := LI_av hZ hI2 hk3 (by rfl) | have hZ := LI_e1 hZ hI2 hk3 hp.1 (by rfl) | skip); (first | have h_dm := RC_dm_av hk3 (by rfl) h_dm | skip); (first | have h_wk := RC_wk_av hk3 (by rfl) h_wk | skip); (first | have h_stG := RC_stG_av hk3 (by rfl) h_stG | skip); (first | have h_sn := RC_sn_av hk3 (by rfl) h_sn | skip); (first | have h_sk := RC_sk_av hk3 (by rfl) h_sk | skip); (first | have h_tx := RC_tx_av hk3 (by rfl) h_tx | skip); (first | have h_pn := RC_pn_av hk3 (by rfl) h_pn | skip); (first | have h_sp := RC_sp_av hk3 (by rfl) h_sp | skip); (first | have h_nr := RC_nr_av hk3 (by rfl) h_nr | skip); (first | have h_rv := RC_rv_av hk3 (by rfl) h_rv | skip); (first | have h_rf := RC_rf_av hk3 (by rfl) h_rf | skip); (first | have h_nf := RC_nf_av hk3 (by rfl) h_nf | skip); (first | have h_nb := RC_nb_av hk3 (by rfl) h_nb | skip); (first | (have hk0 := hkA; clear hk0; have hkB := hk3; (try have hpB := hp); (have hx := cu_fault hpA hpB hkA hkB hCI o_tx; (try dsimp only at hx); have h_pn := cu_fault_pn hpA hpB hkA hkB hCI o_pn)) | (have hkA := hk3; (try have hpA := hp); skip))))
       | (obtain ⟨Z', rfl, rfl, hI2, hk2, hp⟩ := hq; (first | have hk3 := kp_of hk2 | have hk3 := hk2); (first | have hZ := LI_av hZ hI2 hk3 (by rfl) | have hZ := LI_e1 hZ hI2 hk3 hp.1 (by rfl) | skip); (first | have h_dm := RC_dm_av hk3 (by rfl) h_dm | skip); (first | have h_wk := RC_wk_av hk3 (by rfl) h_wk | skip); (first | have h_stG := RC_stG_av hk3 (by rfl) h_stG | skip); (first | have h_sn := RC_sn_av hk3 (by rfl) h_sn | skip); (first | have h_sk := RC_sk_av hk3 (by rfl) h_sk | skip); (first | have h_tx := RC_tx_av hk3 (by rfl) h_tx | skip); (first | have h_pn := RC_pn_av hk3 (by rfl) h_pn | skip); (first | have h_sp := RC_sp_av hk3 (by rfl) h_sp | skip); (first | have h_nr := RC_nr_av hk3 (by rfl) h_nr | skip); (first | have h_rv := RC_rv_av hk3 (by rfl) h_rv | skip); (first | have h_rf := RC_rf_av hk3 (by rfl) h_rf | skip); (first | have h_nf := RC_nf_av hk3 (by rfl) h_nf | skip); (first | have h_nb := RC_nb_av hk3 (by rfl) h_nb | skip); (first | (have hk0 := hkA; clear hk0; have hkB := hk3; (try have hpB := hp); (have hx := cu_fault hpA hpB hkA hkB hCI o_tx; (try dsimp only at hx); have h_pn := cu_fault_pn hpA hpB hkA hkB hCI o_pn)) | (have hkA := hk3; (try have hpA := hp); skip)))
       | (obtain ⟨Z', rfl, rfl, hI2, hk2⟩ := hq; (first | have hk3 := kp_of hk2 | have hk3 := hk2); (first | have hZ := LI_av hZ hI2 hk3 (by rfl) | have hZ := LI_e1 hZ hI2 hk3 hp.1 (by rfl) | skip); (first | have h_dm := RC_dm_av hk3 (by rfl) h_dm | skip); (first | have h_wk := RC_wk_av hk3 (by rfl) h_wk | skip); (first | have h_stG := RC_stG_av hk3 (by rfl) h_stG | skip); (first | have h_sn := RC_sn_av hk3 (by rfl) h_sn | skip); (first | have h_sk := RC_sk_av hk3 (by rfl) h_sk | skip); (first | have h_tx := RC_tx_av hk3 (by rfl) h_tx | skip); (first | have h_pn := RC_pn_av hk3 (by rfl) h_pn | skip); (first | have h_sp := RC_sp_av hk3 (by rfl) h_sp | skip); (first | have h_nr := RC_nr_av hk3 (by rfl) h_nr | skip); (first | have h_rv := RC_rv_av hk3 (by rfl) h_rv | skip); (first | have h_rf := RC_rf_av hk3 (by rfl) h_rf | skip); (first | have h_nf := RC_nf_av hk3 (by rfl) h_nf | skip); (first | have h_nb := RC_nb_av hk3 (by rfl) h_nb | skip); (first | (have hk0 := hkA; clear hk0; have hkB := hk3; (try have hpB := hp); (have hx := cu_fault hpA hpB hkA hkB hCI o_tx; (try dsimp only at hx); have h_pn := cu_fault_pn hpA hpB hkA hkB hCI o_pn)) | (have hkA := hk3; (try have hpA := hp); skip))))
    | (intro hc; (try simp only [cmp3_c] at hc); simp only [cmpI] at hc; (try (exfalso; omega))))
  all_goals first
    | with_reducible rfl
    | ((with_reducible show recvG _ _); rfl)
    | with_reducible exact trivial
    | ((with_reducible show BYT (bC _)); exact tx_byC h_tx)
    | ((with_reducible show BYT (mB _)); exact tx_byM h_tx)
    | ((with_reducible show PWF _); exact PN_pwf h_pn)
    | ((with_reducible show NBB _); exact o_nb)
    | ((with_reducible show NBF _); exact o_nf)
    | ((with_reducible show NRC _); exact o_nr)
    | ((with_reducible show NBS _); exact nbs_of o_sn o_pn o_nr o_rv o_rf hCI hE1)
    | ((with_reducible show PLH _); exact PLH_o (fun o h1 h2 => kp_cls hkA (by rfl) o (by omega) (by omega)) (PN_plh o_pn hE1 o_rf.1))
    | ((with_reducible show NWM _); exact NWM_o (fun o h1 h2 => kp_cls hkA (by rfl) o (by omega) (by omega)) (PN_nwm o_pn hCI))
    | ((with_reducible show LNO _); exact LNO_o (fun o h1 h2 => kp_cls hkA (by rfl) o (by omega) (by omega)) (congrFun (kp_cls hkA (by rfl) 100 (by decide) (by decide)) 7) (PN_lno o_pn))
    | ((with_reducible show FRM _); exact FRM_o (kp_cls hkA (by rfl) 112 (by decide) (by decide)) (kp_cls hkA (by rfl) 101 (by decide) (by decide)) (frm_of o_sn o_rv))
    | ((with_reducible show CI _); exact hZ.1)
    | ((with_reducible show E1 _); exact hZ.2.1)
    | ((with_reducible show EB _); exact hZ.2.2.1)
    | ((with_reducible show KB _); exact hZ.2.2.2.1)
    | ((with_reducible show KE _); exact hZ.2.2.2.2)
    | (refine hG.2 1299 _ [(0, vr 0), (1, vr 1), (2, vr 100), (3, vi i)] _ _ rfl ?_; exact hE _ hZ ⟨(by assumption), (by assumption), (by assumption), (by assumption), (by assumption), (by assumption), (by assumption), (by assumption), (by assumption), (by assumption), (by assumption), (by assumption), (by assumption), trivial⟩)
    | decide
    | (refine (sx hi hL (k := 0) (by decide) ?_).1; simp (disch := omega) only [w32_id]; omega)
    | (with_reducible refine (sx hi hL ?_ rfl).1; decide)
    | (with_reducible refine (sx hi hL ?_ rfl).2; decide)
    | omega
    | (dsimp only; omega)
    | (exfalso; omega)
    | rfl
    | skip

set_option maxRecDepth 100000 in
set_option maxHeartbeats 40000000 in
theorem lc_6 {L : Nat} {xs : Nat → Int} {G : GT} (hG : Clo MCL 130 (some (L, xs)) QL G) {i : Int} (hi : 0 ≤ i ∧ i + 7 ≤ (L : Int)) (hL : L ≤ 3584) {Z : ZT} (hZ : LI Z) (hR : RLX Z) (hE : ∀ Z1, LI Z1 → RLX Z1 → G 1299 [(0, vr 0), (1, vr 1), (2, vr 100), (3, vi i)] [] (130, Z1, R0)) : G 368 [(0, vr 0), (1, vr 1), (2, vr 100), (3, vi i)] [] (130, Z, R0) := by
  obtain ⟨h_dm, h_wk, h_stG, h_sn, h_sk, h_tx, h_pn, h_sp, h_nr, h_rv, h_rf, h_nf, h_nb, -⟩ := hR
  have o_dm := h_dm
  have o_wk := h_wk
  have o_stG := h_stG
  have o_sn := h_sn
  have o_sk := h_sk
  have o_tx := h_tx
  have o_pn := h_pn
  have o_sp := h_sp
  have o_nr := h_nr
  have o_rv := h_rv
  have o_rf := h_rf
  have o_nf := h_nf
  have o_nb := h_nb
  have hCI := hZ.1
  have hp0 : 0 ≤ Z 18 4 ∧ Z 18 4 ≤ 12 := by (have q := hCI 100 19 0 12 rfl; have q2 := h_sn; unfold RC_sn at q2; omega)
  have htx0 : 0 ≤ Z 6 1 ∧ Z 6 1 ≤ 160 := by (have q := hCI 100 5 0 160 rfl; have q2 := h_tx.1; omega)
  have hE1 := hZ.2.1
  have hed : 0 ≤ Z 18 3 ∧ Z 18 3 ≤ 2 := by (have q := hCI 100 2 0 2 rfl; have q2 := h_sn; unfold RC_sn at q2; omega)
  have hek := ek_of h_sk hZ.2.2.2.1
  refine wp_run hG [1299] 200 _ _ _ _ ?_
  repeat' (first
    | with_reducible rfl
    | ((with_reducible show BYT (bC _)); exact tx_byC h_tx)
    | ((with_reducible show BYT (mB _)); exact tx_byM h_tx)
    | ((with_reducible show PWF _); exact PN_pwf h_pn)
    | ((with_reducible show NBB _); exact o_nb)
    | ((with_reducible show NBF _); exact o_nf)
    | ((with_reducible show NRC _); exact o_nr)
    | ((with_reducible show NBS _); exact nbs_of o_sn o_pn o_nr o_rv o_rf hCI hE1)
    | ((with_reducible show PLH _); exact PLH_o (fun o h1 h2 => kp_cls hkA (by rfl) o (by omega) (by omega)) (PN_plh o_pn hE1 o_rf.1))
    | ((with_reducible show NWM _); exact NWM_o (fun o h1 h2 => kp_cls hkA (by rfl) o (by omega) (by omega)) (PN_nwm o_pn hCI))
    | ((with_reducible show LNO _); exact LNO_o (fun o h1 h2 => kp_cls hkA (by rfl) o (by omega) (by omega)) (congrFun (kp_cls hkA (by rfl) 100 (by decide) (by decide)) 7) (PN_lno o_pn))
    | ((with_reducible show FRM _); exact FRM_o (kp_cls hkA (by rfl) 112 (by decide) (by decide)) (kp_cls hkA (by rfl) 101 (by decide) (by decide)) (frm_of o_sn o_rv))
    | refine And.intro ?_ ?_
    | (intro (r : Option PV) σ' hq
       first
       | (obtain ⟨rfl, rfl⟩ := hq)
       | (obtain ⟨rfl, x, rfl, hp⟩ := hq; (try replace hp : _ ∧ _ := hp); (try dsimp only at hp))
       | (obtain ⟨Z', x, rfl, rfl, hI2, hk2, hp⟩ := hq; (try replace hp : _ ∧ _ := hp); (try dsimp only at hp); (first | have hk3 := kp_of hk2 | have hk3 := hk2); (first | have hZ := LI_av hZ hI2 hk3 (by rfl) | have hZ := LI_e1 hZ hI2 hk3 hp.1 (by rfl) | skip); (first | have h_dm := RC_dm_av hk3 (by rfl) h_dm | skip); (first | have h_wk := RC_wk_av hk3 (by rfl) h_wk | skip); (first | have h_stG := RC_stG_av hk3 (by rfl) h_stG | skip); (first | have h_sn := RC_sn_av hk3 (by rfl) h_sn | skip); (first | have h_sk := RC_sk_av hk3 (by rfl) h_sk | skip); (first | have h_tx := RC_tx_av hk3 (by rfl) h_tx | skip); (first | have h_pn := RC_pn_av hk3 (by rfl) h_pn | skip); (first | have h_sp := RC_sp_av hk3 (by rfl) h_sp | skip); (first | have h_nr := RC_nr_av hk3 (by rfl) h_nr | skip); (first | have h_rv := RC_rv_av hk3 (by rfl) h_rv | skip); (first | have h_rf := RC_rf_av hk3 (by rfl) h_rf | skip); (first | have h_nf := RC_nf_av hk3 (by rfl) h_nf | skip); (first | have h_nb := RC_nb_av hk3 (by rfl) h_nb | skip); (first | (have hk0 := hkA; clear hk0; have hkB := hk3; (try have hpB := hp); (((have hpA := And.intro hpA.1 (trivial)); (have hkA : kp ([4006, 5006, 6006, 8, 9, 10, 11, 12, 13, 14, 15, 16, 17, 19, 20, 21, 22, 23, 24, 25, 26, 27, 28, 70, 72, 74, 76, 78]) Z _ := kp_mono (by rfl) hkA)); (have hx := cu_plan_pn hpA hpB hkA hkB hCI o_pn o_tx hIA; have h_pn := hx.2; have hx := hx.1; (try dsimp only at hx)))) | (have hkA := hk3; (try have hpA := hp); ((have h_nb : RC_nb _ := hpA.2.1); (have h_rf := cu_plan_rf hpA hkA hCI o_rf); (have hIA := hI2)))))
       | (obtain ⟨Z', x, rfl, rfl, hI2, hk2⟩ := hq; (first | have hk3 := kp_of hk2 | have hk3 := hk2); (first | have hZ := LI_av hZ hI2 hk3 (by rfl) | have hZ := LI_e1 hZ hI2 hk3 hp.1 (by rfl) | skip); (first | have h_dm := RC_dm_av hk3 (by rfl) h_dm | skip); (first | have h_wk := RC_wk_av hk3 (by rfl) h_wk | skip); (first | have h_stG := RC_stG_av hk3 (by rfl) h_stG | skip); (first | have h_sn := RC_sn_av hk3 (by rfl) h_sn | skip); (first | have h_sk := RC_sk_av hk3 (by rfl) h_sk | skip); (first | have h_tx := RC_tx_av hk3 (by rfl) h_tx | skip); (first | have h_pn := RC_pn_av hk3 (by rfl) h_pn | skip); (first | have h_sp := RC_sp_av hk3 (by rfl) h_sp | skip); (first | have h_nr := RC_nr_av hk3 (by rfl) h_nr | skip); (first | have h_rv := RC_rv_av hk3 (by rfl) h_rv | skip); (first | have h_rf := RC_rf_av hk3 (by rfl) h_rf | skip); (first | have h_nf := RC_nf_av hk3 (by rfl) h_nf | skip); (first | have h_nb := RC_nb_av hk3 (by rfl) h_nb | skip); (first | (have hk0 := hkA; clear hk0; have hkB := hk3; (try have hpB := hp); (((have hpA := And.intro hpA.1 (trivial)); (have hkA : kp ([4006, 5006, 6006, 8, 9, 10, 11, 12, 13, 14, 15, 16, 17, 19, 20, 21, 22, 23, 24, 25, 26, 27, 28, 70, 72, 74, 76, 78]) Z _ := kp_mono (by rfl) hkA)); (have hx := cu_plan_pn hpA hpB hkA hkB hCI o_pn o_tx hIA; have h_pn := hx.2; have hx := hx.1; (try dsimp only at hx)))) | (have hkA := hk3; (try have hpA := hp); ((have h_nb : RC_nb _ := hpA.2.1); (have h_rf := cu_plan_rf hpA hkA hCI o_rf); (have hIA := hI2)))))
       | (rcases hq with ⟨Z', rfl, rfl, hI2, hk2⟩ | ⟨Z', rfl, rfl, hI2, hk2⟩ <;> ((first | have hk3 := kp_of hk2 | have hk3 := hk2); (first | have hZ := LI_av hZ hI2 hk3 (by rfl) | have hZ := LI_e1 hZ hI2 hk3 hp.1 (by rfl) | skip); (first | have h_dm := RC_dm_av hk3 (by rfl) h_dm | skip); (first | have h_wk := RC_wk_av hk3 (by rfl) h_wk | skip); (first | have h_stG := RC_stG_av hk3 (by rfl) h_stG | skip); (first | have h_sn := RC_sn_av hk3 (by rfl) h_sn | skip); (first | have h_sk := RC_sk_av hk3 (by rfl) h_sk | skip); (first | have h_tx := RC_tx_av hk3 (by rfl) h_tx | skip); (first | have h_pn := RC_pn_av hk3 (by rfl) h_pn | skip); (first | have h_sp := RC_sp_av hk3 (by rfl) h_sp | skip); (first | have h_nr := RC_nr_av hk3 (by rfl) h_nr | skip); (first | have h_rv := RC_rv_av hk3 (by rfl) h_rv | skip); (first | have h_rf := RC_rf_av hk3 (by rfl) h_rf | skip); (first | have h_nf := RC_nf_av hk3 (by rfl) h_nf | skip); (first | have h_nb := RC_nb_av hk3 (by rfl) h_nb | skip); (first | (have hk0 := hkA; clear hk0; have hkB := hk3; (try have hpB := hp); (((have hpA := And.intro hpA.1 (trivial)); (have hkA : kp ([4006, 5006, 6006, 8, 9, 10, 11, 12, 13, 14, 15, 16, 17, 19, 20, 21, 22, 23, 24, 25, 26, 27, 28, 70, 72, 74, 76, 78]) Z _ := kp_mono (by rfl) hkA)); (have hx := cu_plan_pn hpA hpB hkA hkB hCI o_pn o_tx hIA; have h_pn := hx.2; have hx := hx.1; (try dsimp only at hx)))) | (have hkA := hk3; (try have hpA := hp); ((have h_nb : RC_nb _ := hpA.2.1); (have h_rf := cu_plan_rf hpA hkA hCI o_rf); (have hIA := hI2))))))
       | (obtain ⟨Z', rfl, rfl, hI2, hk2, hp⟩ := hq; (first | have hk3 := kp_of hk2 | have hk3 := hk2); (first | have hZ := LI_av hZ hI2 hk3 (by rfl) | have hZ := LI_e1 hZ hI2 hk3 hp.1 (by rfl) | skip); (first | have h_dm := RC_dm_av hk3 (by rfl) h_dm | skip); (first | have h_wk := RC_wk_av hk3 (by rfl) h_wk | skip); (first | have h_stG := RC_stG_av hk3 (by rfl) h_stG | skip); (first | have h_sn := RC_sn_av hk3 (by rfl) h_sn | skip); (first | have h_sk := RC_sk_av hk3 (by rfl) h_sk | skip); (first | have h_tx := RC_tx_av hk3 (by rfl) h_tx | skip); (first | have h_pn := RC_pn_av hk3 (by rfl) h_pn | skip); (first | have h_sp := RC_sp_av hk3 (by rfl) h_sp | skip); (first | have h_nr := RC_nr_av hk3 (by rfl) h_nr | skip); (first | have h_rv := RC_rv_av hk3 (by rfl) h_rv | skip); (first | have h_rf := RC_rf_av hk3 (by rfl) h_rf | skip); (first | have h_nf := RC_nf_av hk3 (by rfl) h_nf | skip); (first | have h_nb := RC_nb_av hk3 (by rfl) h_nb | skip); (first | (have hk0 := hkA; clear hk0; have hkB := hk3; (try have hpB := hp); (((have hpA := And.intro hpA.1 (trivial)); (have hkA : kp ([4006, 5006, 6006, 8, 9, 10, 11, 12, 13, 14, 15, 16, 17, 19, 20, 21, 22, 23, 24, 25, 26, 27, 28, 70, 72, 74, 76, 78]) Z _ := kp_mono (by rfl) hkA)); (have hx := cu_plan_pn hpA hpB hkA hkB hCI o_pn o_tx hIA; have h_pn := hx.2; have hx := hx.1; (try dsimp only at hx)))) | (have hkA := hk3; (try have hpA := hp); ((have h_nb : RC_nb _ := hpA.2.1); (have h_rf := cu_plan_rf hpA hkA hCI o_rf); (have hIA := hI2)))))
       | (obtain ⟨Z', rfl, rfl, hI2, hk2⟩ := hq; (first | have hk3 := kp_of hk2 | have hk3 := hk2); (first | have hZ := LI_av hZ hI2 hk3 (by rfl) | have hZ := LI_e1 hZ hI2 hk3 hp.1 (by rfl) | skip); (first | have h_dm := RC_dm_av hk3 (by rfl) h_dm | skip); (first | have h_wk := RC_wk_av hk3 (by rfl) h_wk | skip); (first | have h_stG := RC_stG_av hk3 (by rfl) h_stG | skip); (first | have h_sn := RC_sn_av hk3 (by rfl) h_sn | skip); (first | have h_sk := RC_sk_av hk3 (by rfl) h_sk | skip); (first | have h_tx := RC_tx_av hk3 (by rfl) h_tx | skip); (first | have h_pn := RC_pn_av hk3 (by rfl) h_pn | skip); (first | have h_sp := RC_sp_av hk3 (by rfl) h_sp | skip); (first | have h_nr := RC_nr_av hk3 (by rfl) h_nr | skip); (first | have h_rv := RC_rv_av hk3 (by rfl) h_rv | skip); (first | have h_rf := RC_rf_av hk3 (by rfl) h_rf | skip); (first | have h_nf := RC_nf_av hk3 (by rfl) h_nf | skip); (first | have h_nb := RC_nb_av hk3 (by rfl) h_nb | skip); (first | (have hk0 := hkA; clear hk0; have hkB := hk3; (try have hpB := hp); (((have hpA := And.intro hpA.1 (trivial)); (have hkA : kp ([4006, 5006, 6006, 8, 9, 10, 11, 12, 13, 14, 15, 16, 17, 19, 20, 21, 22, 23, 24, 25, 26, 27, 28, 70, 72, 74, 76, 78]) Z _ := kp_mono (by rfl) hkA)); (have hx := cu_plan_pn hpA hpB hkA hkB hCI o_pn o_tx hIA; have h_pn := hx.2; have hx := hx.1; (try dsimp only at hx)))) | (have hkA := hk3; (try have hpA := hp); ((have h_nb : RC_nb _ := hpA.2.1); (have h_rf := cu_plan_rf hpA hkA hCI o_rf); (have hIA := hI2))))))
    | (intro hc; (try simp only [cmp3_c] at hc); simp only [cmpI] at hc; (try (exfalso; omega))))
  all_goals first
    | with_reducible rfl
    | ((with_reducible show recvG _ _); rfl)
    | with_reducible exact trivial
    | ((with_reducible show BYT (bC _)); exact tx_byC h_tx)
    | ((with_reducible show BYT (mB _)); exact tx_byM h_tx)
    | ((with_reducible show PWF _); exact PN_pwf h_pn)
    | ((with_reducible show NBB _); exact o_nb)
    | ((with_reducible show NBF _); exact o_nf)
    | ((with_reducible show NRC _); exact o_nr)
    | ((with_reducible show NBS _); exact nbs_of o_sn o_pn o_nr o_rv o_rf hCI hE1)
    | ((with_reducible show PLH _); exact PLH_o (fun o h1 h2 => kp_cls hkA (by rfl) o (by omega) (by omega)) (PN_plh o_pn hE1 o_rf.1))
    | ((with_reducible show NWM _); exact NWM_o (fun o h1 h2 => kp_cls hkA (by rfl) o (by omega) (by omega)) (PN_nwm o_pn hCI))
    | ((with_reducible show LNO _); exact LNO_o (fun o h1 h2 => kp_cls hkA (by rfl) o (by omega) (by omega)) (congrFun (kp_cls hkA (by rfl) 100 (by decide) (by decide)) 7) (PN_lno o_pn))
    | ((with_reducible show FRM _); exact FRM_o (kp_cls hkA (by rfl) 112 (by decide) (by decide)) (kp_cls hkA (by rfl) 101 (by decide) (by decide)) (frm_of o_sn o_rv))
    | ((with_reducible show CI _); exact hZ.1)
    | ((with_reducible show E1 _); exact hZ.2.1)
    | ((with_reducible show EB _); exact hZ.2.2.1)
    | ((with_reducible show KB _); exact hZ.2.2.2.1)
    | ((with_reducible show KE _); exact hZ.2.2.2.2)
    | (refine hG.2 1299 _ [(0, vr 0), (1, vr 1), (2, vr 100), (3, vi i)] _ _ rfl ?_; exact hE _ hZ ⟨(by assumption), (by assumption), (by assumption), (by assumption), (by assumption), (by assumption), (by assumption), (by assumption), (by assumption), (by assumption), (by assumption), (by assumption), (by assumption), trivial⟩)
    | decide
    | (refine (sx hi hL (k := 0) (by decide) ?_).1; simp (disch := omega) only [w32_id]; omega)
    | (with_reducible refine (sx hi hL ?_ rfl).1; decide)
    | (with_reducible refine (sx hi hL ?_ rfl).2; decide)
    | omega
    | (dsimp only; omega)
    | (exfalso; omega)
    | rfl
    | skip

set_option maxRecDepth 100000 in
set_option maxHeartbeats 40000000 in
theorem lc_7 {L : Nat} {xs : Nat → Int} {G : GT} (hG : Clo MCL 130 (some (L, xs)) QL G) {i : Int} (hi : 0 ≤ i ∧ i + 7 ≤ (L : Int)) (hL : L ≤ 3584) {Z : ZT} (hZ : LI Z) (hR : RLX Z) (hE : ∀ Z1, LI Z1 → RLX Z1 → G 1299 [(0, vr 0), (1, vr 1), (2, vr 100), (3, vi i)] [] (130, Z1, R0)) : G 381 [(0, vr 0), (1, vr 1), (2, vr 100), (3, vi i)] [] (130, Z, R0) := by
  obtain ⟨h_dm, h_wk, h_stG, h_sn, h_sk, h_tx, h_pn, h_sp, h_nr, h_rv, h_rf, h_nf, h_nb, -⟩ := hR
  have o_dm := h_dm
  have o_wk := h_wk
  have o_stG := h_stG
  have o_sn := h_sn
  have o_sk := h_sk
  have o_tx := h_tx
  have o_pn := h_pn
  have o_sp := h_sp
  have o_nr := h_nr
  have o_rv := h_rv
  have o_rf := h_rf
  have o_nf := h_nf
  have o_nb := h_nb
  have hCI := hZ.1
  have hp0 : 0 ≤ Z 18 4 ∧ Z 18 4 ≤ 12 := by (have q := hCI 100 19 0 12 rfl; have q2 := h_sn; unfold RC_sn at q2; omega)
  have htx0 : 0 ≤ Z 6 1 ∧ Z 6 1 ≤ 160 := by (have q := hCI 100 5 0 160 rfl; have q2 := h_tx.1; omega)
  have hE1 := hZ.2.1
  have hed : 0 ≤ Z 18 3 ∧ Z 18 3 ≤ 2 := by (have q := hCI 100 2 0 2 rfl; have q2 := h_sn; unfold RC_sn at q2; omega)
  have hek := ek_of h_sk hZ.2.2.2.1
  refine wp_run hG [1299] 200 _ _ _ _ ?_
  repeat' (first
    | with_reducible rfl
    | ((with_reducible show BYT (bC _)); exact tx_byC h_tx)
    | ((with_reducible show BYT (mB _)); exact tx_byM h_tx)
    | ((with_reducible show PWF _); exact PN_pwf h_pn)
    | ((with_reducible show NBB _); exact o_nb)
    | ((with_reducible show NBF _); exact o_nf)
    | ((with_reducible show NRC _); exact o_nr)
    | ((with_reducible show NBS _); exact nbs_of o_sn o_pn o_nr o_rv o_rf hCI hE1)
    | ((with_reducible show PLH _); exact PLH_o (fun o h1 h2 => kp_cls hkA (by rfl) o (by omega) (by omega)) (PN_plh o_pn hE1 o_rf.1))
    | ((with_reducible show NWM _); exact NWM_o (fun o h1 h2 => kp_cls hkA (by rfl) o (by omega) (by omega)) (PN_nwm o_pn hCI))
    | ((with_reducible show LNO _); exact LNO_o (fun o h1 h2 => kp_cls hkA (by rfl) o (by omega) (by omega)) (congrFun (kp_cls hkA (by rfl) 100 (by decide) (by decide)) 7) (PN_lno o_pn))
    | ((with_reducible show FRM _); exact FRM_o (kp_cls hkA (by rfl) 112 (by decide) (by decide)) (kp_cls hkA (by rfl) 101 (by decide) (by decide)) (frm_of o_sn o_rv))
    | refine And.intro ?_ ?_
    | (intro (r : Option PV) σ' hq
       first
       | (obtain ⟨rfl, rfl⟩ := hq)
       | (obtain ⟨rfl, x, rfl, hp⟩ := hq; (try replace hp : _ ∧ _ := hp); (try dsimp only at hp))
       | (obtain ⟨Z', x, rfl, rfl, hI2, hk2, hp⟩ := hq; (try replace hp : _ ∧ _ := hp); (try dsimp only at hp); (first | have hk3 := kp_of hk2 | have hk3 := hk2); (first | have hZ := LI_av hZ hI2 hk3 (by rfl) | skip); (first | have h_dm := RC_dm_av hk3 (by rfl) h_dm | skip); (first | have h_wk := RC_wk_av hk3 (by rfl) h_wk | skip); (first | have h_stG := RC_stG_av hk3 (by rfl) h_stG | skip); (first | have h_sn := RC_sn_av hk3 (by rfl) h_sn | skip); (first | have h_sk := RC_sk_av hk3 (by rfl) h_sk | skip); (first | have h_tx := RC_tx_av hk3 (by rfl) h_tx | skip); (first | have h_pn := RC_pn_av hk3 (by rfl) h_pn | skip); (first | have h_sp := RC_sp_av hk3 (by rfl) h_sp | skip); (first | have h_nr := RC_nr_av hk3 (by rfl) h_nr | skip); (first | have h_rv := RC_rv_av hk3 (by rfl) h_rv | skip); (first | have h_rf := RC_rf_av hk3 (by rfl) h_rf | skip); (first | have h_nf := RC_nf_av hk3 (by rfl) h_nf | skip); (first | have h_nb := RC_nb_av hk3 (by rfl) h_nb | skip))
       | (obtain ⟨Z', x, rfl, rfl, hI2, hk2⟩ := hq; (first | have hk3 := kp_of hk2 | have hk3 := hk2); (first | have hZ := LI_av hZ hI2 hk3 (by rfl) | skip); (first | have h_dm := RC_dm_av hk3 (by rfl) h_dm | skip); (first | have h_wk := RC_wk_av hk3 (by rfl) h_wk | skip); (first | have h_stG := RC_stG_av hk3 (by rfl) h_stG | skip); (first | have h_sn := RC_sn_av hk3 (by rfl) h_sn | skip); (first | have h_sk := RC_sk_av hk3 (by rfl) h_sk | skip); (first | have h_tx := RC_tx_av hk3 (by rfl) h_tx | skip); (first | have h_pn := RC_pn_av hk3 (by rfl) h_pn | skip); (first | have h_sp := RC_sp_av hk3 (by rfl) h_sp | skip); (first | have h_nr := RC_nr_av hk3 (by rfl) h_nr | skip); (first | have h_rv := RC_rv_av hk3 (by rfl) h_rv | skip); (first | have h_rf := RC_rf_av hk3 (by rfl) h_rf | skip); (first | have h_nf := RC_nf_av hk3 (by rfl) h_nf | skip); (first | have h_nb := RC_nb_av hk3 (by rfl) h_nb | skip))
       | (rcases hq with ⟨Z', rfl, rfl, hI2, hk2⟩ | ⟨Z', rfl, rfl, hI2, hk2⟩ <;> ((first | have hk3 := kp_of hk2 | have hk3 := hk2); (first | have hZ := LI_av hZ hI2 hk3 (by rfl) | skip); (first | have h_dm := RC_dm_av hk3 (by rfl) h_dm | skip); (first | have h_wk := RC_wk_av hk3 (by rfl) h_wk | skip); (first | have h_stG := RC_stG_av hk3 (by rfl) h_stG | skip); (first | have h_sn := RC_sn_av hk3 (by rfl) h_sn | skip); (first | have h_sk := RC_sk_av hk3 (by rfl) h_sk | skip); (first | have h_tx := RC_tx_av hk3 (by rfl) h_tx | skip); (first | have h_pn := RC_pn_av hk3 (by rfl) h_pn | skip); (first | have h_sp := RC_sp_av hk3 (by rfl) h_sp | skip); (first | have h_nr := RC_nr_av hk3 (by rfl) h_nr | skip); (first | have h_rv := RC_rv_av hk3 (by rfl) h_rv | skip); (first | have h_rf := RC_rf_av hk3 (by rfl) h_rf | skip); (first | have h_nf := RC_nf_av hk3 (by rfl) h_nf | skip); (first | have h_nb := RC_nb_av hk3 (by rfl) h_nb | skip)))
       | (obtain ⟨Z', rfl, rfl, hI2, hk2, hp⟩ := hq; (first | have hk3 := kp_of hk2 | have hk3 := hk2); (first | have hZ := LI_av hZ hI2 hk3 (by rfl) | skip); (first | have h_dm := RC_dm_av hk3 (by rfl) h_dm | skip); (first | have h_wk := RC_wk_av hk3 (by rfl) h_wk | skip); (first | have h_stG := RC_stG_av hk3 (by rfl) h_stG | skip); (first | have h_sn := RC_sn_av hk3 (by rfl) h_sn | skip); (first | have h_sk := RC_sk_av hk3 (by rfl) h_sk | skip); (first | have h_tx := RC_tx_av hk3 (by rfl) h_tx | skip); (first | have h_pn := RC_pn_av hk3 (by rfl) h_pn | skip); (first | have h_sp := RC_sp_av hk3 (by rfl) h_sp | skip); (first | have h_nr := RC_nr_av hk3 (by rfl) h_nr | skip); (first | have h_rv := RC_rv_av hk3 (by rfl) h_rv | skip); (first | have h_rf := RC_rf_av hk3 (by rfl) h_rf | skip); (first | have h_nf := RC_nf_av hk3 (by rfl) h_nf | skip); (first | have h_nb := RC_nb_av hk3 (by rfl) h_nb | skip))
       | (obtain ⟨Z', rfl, rfl, hI2, hk2⟩ := hq; (first | have hk3 := kp_of hk2 | have hk3 := hk2); (first | have hZ := LI_av hZ hI2 hk3 (by rfl) | skip); (first | have h_dm := RC_dm_av hk3 (by rfl) h_dm | skip); (first | have h_wk := RC_wk_av hk3 (by rfl) h_wk | skip); (first | have h_stG := RC_stG_av hk3 (by rfl) h_stG | skip); (first | have h_sn := RC_sn_av hk3 (by rfl) h_sn | skip); (first | have h_sk := RC_sk_av hk3 (by rfl) h_sk | skip); (first | have h_tx := RC_tx_av hk3 (by rfl) h_tx | skip); (first | have h_pn := RC_pn_av hk3 (by rfl) h_pn | skip); (first | have h_sp := RC_sp_av hk3 (by rfl) h_sp | skip); (first | have h_nr := RC_nr_av hk3 (by rfl) h_nr | skip); (first | have h_rv := RC_rv_av hk3 (by rfl) h_rv | skip); (first | have h_rf := RC_rf_av hk3 (by rfl) h_rf | skip); (first | have h_nf := RC_nf_av hk3 (by rfl) h_nf | skip); (first | have h_nb := RC_nb_av hk3 (by rfl) h_nb | skip)))
    | (intro hc; (try simp only [cmp3_c] at hc); simp only [cmpI] at hc; (try (exfalso; omega))))
  all_goals first
    | with_reducible rfl
    | ((with_reducible show recvG _ _); rfl)
    | with_reducible exact trivial
    | ((with_reducible show BYT (bC _)); exact tx_byC h_tx)
    | ((with_reducible show BYT (mB _)); exact tx_byM h_tx)
    | ((with_reducible show PWF _); exact PN_pwf h_pn)
    | ((with_reducible show NBB _); exact o_nb)
    | ((with_reducible show NBF _); exact o_nf)
    | ((with_reducible show NRC _); exact o_nr)
    | ((with_reducible show NBS _); exact nbs_of o_sn o_pn o_nr o_rv o_rf hCI hE1)
    | ((with_reducible show PLH _); exact PLH_o (fun o h1 h2 => kp_cls hkA (by rfl) o (by omega) (by omega)) (PN_plh o_pn hE1 o_rf.1))
    | ((with_reducible show NWM _); exact NWM_o (fun o h1 h2 => kp_cls hkA (by rfl) o (by omega) (by omega)) (PN_nwm o_pn hCI))
    | ((with_reducible show LNO _); exact LNO_o (fun o h1 h2 => kp_cls hkA (by rfl) o (by omega) (by omega)) (congrFun (kp_cls hkA (by rfl) 100 (by decide) (by decide)) 7) (PN_lno o_pn))
    | ((with_reducible show FRM _); exact FRM_o (kp_cls hkA (by rfl) 112 (by decide) (by decide)) (kp_cls hkA (by rfl) 101 (by decide) (by decide)) (frm_of o_sn o_rv))
    | ((with_reducible show CI _); exact hZ.1)
    | ((with_reducible show E1 _); exact hZ.2.1)
    | ((with_reducible show EB _); exact hZ.2.2.1)
    | ((with_reducible show KB _); exact hZ.2.2.2.1)
    | ((with_reducible show KE _); exact hZ.2.2.2.2)
    | (refine hG.2 1299 _ [(0, vr 0), (1, vr 1), (2, vr 100), (3, vi i)] _ _ rfl ?_; exact hE _ hZ ⟨(by assumption), (by assumption), (by assumption), (by assumption), (by assumption), (by assumption), (by assumption), (by assumption), (by assumption), (by assumption), (by assumption), (by assumption), (by assumption), trivial⟩)
    | decide
    | (refine (sx hi hL (k := 0) (by decide) ?_).1; simp (disch := omega) only [w32_id]; omega)
    | (with_reducible refine (sx hi hL ?_ rfl).1; decide)
    | (with_reducible refine (sx hi hL ?_ rfl).2; decide)
    | omega
    | (dsimp only; omega)
    | (exfalso; omega)
    | rfl
    | skip

set_option maxRecDepth 100000 in
set_option maxHeartbeats 40000000 in
theorem lc_8 {L : Nat} {xs : Nat → Int} {G : GT} (hG : Clo MCL 130 (some (L, xs)) QL G) {i : Int} (hi : 0 ≤ i ∧ i + 7 ≤ (L : Int)) (hL : L ≤ 3584) {Z : ZT} (hZ : LI Z) (hR : RLX Z) (hE : ∀ Z1, LI Z1 → RLX Z1 → G 1299 [(0, vr 0), (1, vr 1), (2, vr 100), (3, vi i)] [] (130, Z1, R0)) : G 414 [(0, vr 0), (1, vr 1), (2, vr 100), (3, vi i)] [] (130, Z, R0) := by
  obtain ⟨h_dm, h_wk, h_stG, h_sn, h_sk, h_tx, h_pn, h_sp, h_nr, h_rv, h_rf, h_nf, h_nb, -⟩ := hR
  have o_dm := h_dm
  have o_wk := h_wk
  have o_stG := h_stG
  have o_sn := h_sn
  have o_sk := h_sk
  have o_tx := h_tx
  have o_pn := h_pn
  have o_sp := h_sp
  have o_nr := h_nr
  have o_rv := h_rv
  have o_rf := h_rf
  have o_nf := h_nf
  have o_nb := h_nb
  have hCI := hZ.1
  have hp0 : 0 ≤ Z 18 4 ∧ Z 18 4 ≤ 12 := by (have q := hCI 100 19 0 12 rfl; have q2 := h_sn; unfold RC_sn at q2; omega)
  have htx0 : 0 ≤ Z 6 1 ∧ Z 6 1 ≤ 160 := by (have q := hCI 100 5 0 160 rfl; have q2 := h_tx.1; omega)
  have hE1 := hZ.2.1
  have hed : 0 ≤ Z 18 3 ∧ Z 18 3 ≤ 2 := by (have q := hCI 100 2 0 2 rfl; have q2 := h_sn; unfold RC_sn at q2; omega)
  have hek := ek_of h_sk hZ.2.2.2.1
  refine wp_run hG [1299] 200 _ _ _ _ ?_
  repeat' (first
    | with_reducible rfl
    | ((with_reducible show BYT (bC _)); exact tx_byC h_tx)
    | ((with_reducible show BYT (mB _)); exact tx_byM h_tx)
    | ((with_reducible show PWF _); exact PN_pwf h_pn)
    | ((with_reducible show NBB _); exact o_nb)
    | ((with_reducible show NBF _); exact o_nf)
    | ((with_reducible show NRC _); exact o_nr)
    | ((with_reducible show NBS _); exact nbs_of o_sn o_pn o_nr o_rv o_rf hCI hE1)
    | ((with_reducible show PLH _); exact PLH_o (fun o h1 h2 => kp_cls hkA (by rfl) o (by omega) (by omega)) (PN_plh o_pn hE1 o_rf.1))
    | ((with_reducible show NWM _); exact NWM_o (fun o h1 h2 => kp_cls hkA (by rfl) o (by omega) (by omega)) (PN_nwm o_pn hCI))
    | ((with_reducible show LNO _); exact LNO_o (fun o h1 h2 => kp_cls hkA (by rfl) o (by omega) (by omega)) (congrFun (kp_cls hkA (by rfl) 100 (by decide) (by decide)) 7) (PN_lno o_pn))
    | ((with_reducible show FRM _); exact FRM_o (kp_cls hkA (by rfl) 112 (by decide) (by decide)) (kp_cls hkA (by rfl) 101 (by decide) (by decide)) (frm_of o_sn o_rv))
    | refine And.intro ?_ ?_
    | (intro (r : Option PV) σ' hq
       first
       | (obtain ⟨rfl, rfl⟩ := hq)
       | (obtain ⟨rfl, x, rfl, hp⟩ := hq; (try replace hp : _ ∧ _ := hp); (try dsimp only at hp))
       | (obtain ⟨Z', x, rfl, rfl, hI2, hk2, hp⟩ := hq; (try replace hp : _ ∧ _ := hp); (try dsimp only at hp); (first | have hk3 := kp_of hk2 | have hk3 := hk2); (first | have hZ := LI_av hZ hI2 hk3 (by rfl) | skip); (first | have h_dm := RC_dm_av hk3 (by rfl) h_dm | skip); (first | have h_wk := RC_wk_av hk3 (by rfl) h_wk | skip); (first | have h_stG := RC_stG_av hk3 (by rfl) h_stG | skip); (first | have h_sn := RC_sn_av hk3 (by rfl) h_sn | skip); (first | have h_sk := RC_sk_av hk3 (by rfl) h_sk | skip); (first | have h_tx := RC_tx_av hk3 (by rfl) h_tx | skip); (first | have h_pn := RC_pn_av hk3 (by rfl) h_pn | skip); (first | have h_sp := RC_sp_av hk3 (by rfl) h_sp | skip); (first | have h_nr := RC_nr_av hk3 (by rfl) h_nr | skip); (first | have h_rv := RC_rv_av hk3 (by rfl) h_rv | skip); (first | have h_rf := RC_rf_av hk3 (by rfl) h_rf | skip); (first | have h_nf := RC_nf_av hk3 (by rfl) h_nf | skip); (first | have h_nb := RC_nb_av hk3 (by rfl) h_nb | skip); (first | (have hk0 := hkA; clear hk0; have hkB := hk3; (try have hpB := hp); (((have hpA := And.intro hpA.1 (trivial)); (have hkA : kp ([29, 70, 72, 74, 76, 78]) Z _ := kp_mono (by rfl) hkA)); (obtain ⟨hx, h_sn⟩ := cu_first_sn hpA hpB hkA hkB hCI o_sn o_dm; (try dsimp only at hx)))) | (have hkA := hk3; (try have hpA := hp); ((have h_nb : RC_nb _ := hpA.2.1); (have h_rv := cu_first_rv hpA hkA hCI o_rv)))))
       | (obtain ⟨Z', x, rfl, rfl, hI2, hk2⟩ := hq; (first | have hk3 := kp_of hk2 | have hk3 := hk2); (first | have hZ := LI_av hZ hI2 hk3 (by rfl) | skip); (first | have h_dm := RC_dm_av hk3 (by rfl) h_dm | skip); (first | have h_wk := RC_wk_av hk3 (by rfl) h_wk | skip); (first | have h_stG := RC_stG_av hk3 (by rfl) h_stG | skip); (first | have h_sn := RC_sn_av hk3 (by rfl) h_sn | skip); (first | have h_sk := RC_sk_av hk3 (by rfl) h_sk | skip); (first | have h_tx := RC_tx_av hk3 (by rfl) h_tx | skip); (first | have h_pn := RC_pn_av hk3 (by rfl) h_pn | skip); (first | have h_sp := RC_sp_av hk3 (by rfl) h_sp | skip); (first | have h_nr := RC_nr_av hk3 (by rfl) h_nr | skip); (first | have h_rv := RC_rv_av hk3 (by rfl) h_rv | skip); (first | have h_rf := RC_rf_av hk3 (by rfl) h_rf | skip); (first | have h_nf := RC_nf_av hk3 (by rfl) h_nf | skip); (first | have h_nb := RC_nb_av hk3 (by rfl) h_nb | skip); (first | (have hk0 := hkA; clear hk0; have hkB := hk3; (try have hpB := hp); (((have hpA := And.intro hpA.1 (trivial)); (have hkA : kp ([29, 70, 72, 74, 76, 78]) Z _ := kp_mono (by rfl) hkA)); (obtain ⟨hx, h_sn⟩ := cu_first_sn hpA hpB hkA hkB hCI o_sn o_dm; (try dsimp only at hx)))) | (have hkA := hk3; (try have hpA := hp); ((have h_nb : RC_nb _ := hpA.2.1); (have h_rv := cu_first_rv hpA hkA hCI o_rv)))))
       | (rcases hq with ⟨Z', rfl, rfl, hI2, hk2⟩ | ⟨Z', rfl, rfl, hI2, hk2⟩ <;> ((first | have hk3 := kp_of hk2 | have hk3 := hk2); (first | have hZ := LI_av hZ hI2 hk3 (by rfl) | skip); (first | have h_dm := RC_dm_av hk3 (by rfl) h_dm | skip); (first | have h_wk := RC_wk_av hk3 (by rfl) h_wk | skip); (first | have h_stG := RC_stG_av hk3 (by rfl) h_stG | skip); (first | have h_sn := RC_sn_av hk3 (by rfl) h_sn | skip); (first | have h_sk := RC_sk_av hk3 (by rfl) h_sk | skip); (first | have h_tx := RC_tx_av hk3 (by rfl) h_tx | skip); (first | have h_pn := RC_pn_av hk3 (by rfl) h_pn | skip); (first | have h_sp := RC_sp_av hk3 (by rfl) h_sp | skip); (first | have h_nr := RC_nr_av hk3 (by rfl) h_nr | skip); (first | have h_rv := RC_rv_av hk3 (by rfl) h_rv | skip); (first | have h_rf := RC_rf_av hk3 (by rfl) h_rf | skip); (first | have h_nf := RC_nf_av hk3 (by rfl) h_nf | skip); (first | have h_nb := RC_nb_av hk3 (by rfl) h_nb | skip); (first | (have hk0 := hkA; clear hk0; have hkB := hk3; (try have hpB := hp); (((have hpA := And.intro hpA.1 (trivial)); (have hkA : kp ([29, 70, 72, 74, 76, 78]) Z _ := kp_mono (by rfl) hkA)); (obtain ⟨hx, h_sn⟩ := cu_first_sn hpA hpB hkA hkB hCI o_sn o_dm; (try dsimp only at hx)))) | (have hkA := hk3; (try have hpA := hp); ((have h_nb : RC_nb _ := hpA.2.1); (have h_rv := cu_first_rv hpA hkA hCI o_rv))))))
       | (obtain ⟨Z', rfl, rfl, hI2, hk2, hp⟩ := hq; (first | have hk3 := kp_of hk2 | have hk3 := hk2); (first | have hZ := LI_av hZ hI2 hk3 (by rfl) | skip); (first | have h_dm := RC_dm_av hk3 (by rfl) h_dm | skip); (first | have h_wk := RC_wk_av hk3 (by rfl) h_wk | skip); (first | have h_stG := RC_stG_av hk3 (by rfl) h_stG | skip); (first | have h_sn := RC_sn_av hk3 (by rfl) h_sn | skip); (first | have h_sk := RC_sk_av hk3 (by rfl) h_sk | skip); (first | have h_tx := RC_tx_av hk3 (by rfl) h_tx | skip); (first | have h_pn := RC_pn_av hk3 (by rfl) h_pn | skip); (first | have h_sp := RC_sp_av hk3 (by rfl) h_sp | skip); (first | have h_nr := RC_nr_av hk3 (by rfl) h_nr | skip); (first | have h_rv := RC_rv_av hk3 (by rfl) h_rv | skip); (first | have h_rf := RC_rf_av hk3 (by rfl) h_rf | skip); (first | have h_nf := RC_nf_av hk3 (by rfl) h_nf | skip); (first | have h_nb := RC_nb_av hk3 (by rfl) h_nb | skip); (first | (have hk0 := hkA; clear hk0; have hkB := hk3; (try have hpB := hp); (((have hpA := And.intro hpA.1 (trivial)); (have hkA : kp ([29, 70, 72, 74, 76, 78]) Z _ := kp_mono (by rfl) hkA)); (obtain ⟨hx, h_sn⟩ := cu_first_sn hpA hpB hkA hkB hCI o_sn o_dm; (try dsimp only at hx)))) | (have hkA := hk3; (try have hpA := hp); ((have h_nb : RC_nb _ := hpA.2.1); (have h_rv := cu_first_rv hpA hkA hCI o_rv)))))
       | (obtain ⟨Z', rfl, rfl, hI2, hk2⟩ := hq; (first | have hk3 := kp_of hk2 | have hk3 := hk2); (first | have hZ := LI_av hZ hI2 hk3 (by rfl) | skip); (first | have h_dm := RC_dm_av hk3 (by rfl) h_dm | skip); (first | have h_wk := RC_wk_av hk3 (by rfl) h_wk | skip); (first | have h_stG := RC_stG_av hk3 (by rfl) h_stG | skip); (first | have h_sn := RC_sn_av hk3 (by rfl) h_sn | skip); (first | have h_sk := RC_sk_av hk3 (by rfl) h_sk | skip); (first | have h_tx := RC_tx_av hk3 (by rfl) h_tx | skip); (first | have h_pn := RC_pn_av hk3 (by rfl) h_pn | skip); (first | have h_sp := RC_sp_av hk3 (by rfl) h_sp | skip); (first | have h_nr := RC_nr_av hk3 (by rfl) h_nr | skip); (first | have h_rv := RC_rv_av hk3 (by rfl) h_rv | skip); (first | have h_rf := RC_rf_av hk3 (by rfl) h_rf | skip); (first | have h_nf := RC_nf_av hk3 (by rfl) h_nf | skip); (first | have h_nb := RC_nb_av hk3 (by rfl) h_nb | skip); (first | (have hk0 := hkA; clear hk0; have hkB := hk3; (try have hpB := hp); (((have hpA := And.intro hpA.1 (trivial)); (have hkA : kp ([29, 70, 72, 74, 76, 78]) Z _ := kp_mono (by rfl) hkA)); (obtain ⟨hx, h_sn⟩ := cu_first_sn hpA hpB hkA hkB hCI o_sn o_dm; (try dsimp only at hx)))) | (have hkA := hk3; (try have hpA := hp); ((have h_nb : RC_nb _ := hpA.2.1); (have h_rv := cu_first_rv hpA hkA hCI o_rv))))))
    | (intro hc; (try simp only [cmp3_c] at hc); simp only [cmpI] at hc; (try (exfalso; omega))))
  all_goals first
    | with_reducible rfl
    | ((with_reducible show recvG _ _); rfl)
    | with_reducible exact trivial
    | ((with_reducible show BYT (bC _)); exact tx_byC h_tx)
    | ((with_reducible show BYT (mB _)); exact tx_byM h_tx)
    | ((with_reducible show PWF _); exact PN_pwf h_pn)
    | ((with_reducible show NBB _); exact o_nb)
    | ((with_reducible show NBF _); exact o_nf)
    | ((with_reducible show NRC _); exact o_nr)
    | ((with_reducible show NBS _); exact nbs_of o_sn o_pn o_nr o_rv o_rf hCI hE1)
    | ((with_reducible show PLH _); exact PLH_o (fun o h1 h2 => kp_cls hkA (by rfl) o (by omega) (by omega)) (PN_plh o_pn hE1 o_rf.1))
    | ((with_reducible show NWM _); exact NWM_o (fun o h1 h2 => kp_cls hkA (by rfl) o (by omega) (by omega)) (PN_nwm o_pn hCI))
    | ((with_reducible show LNO _); exact LNO_o (fun o h1 h2 => kp_cls hkA (by rfl) o (by omega) (by omega)) (congrFun (kp_cls hkA (by rfl) 100 (by decide) (by decide)) 7) (PN_lno o_pn))
    | ((with_reducible show FRM _); exact FRM_o (kp_cls hkA (by rfl) 112 (by decide) (by decide)) (kp_cls hkA (by rfl) 101 (by decide) (by decide)) (frm_of o_sn o_rv))
    | ((with_reducible show CI _); exact hZ.1)
    | ((with_reducible show E1 _); exact hZ.2.1)
    | ((with_reducible show EB _); exact hZ.2.2.1)
    | ((with_reducible show KB _); exact hZ.2.2.2.1)
    | ((with_reducible show KE _); exact hZ.2.2.2.2)
    | (refine hG.2 1299 _ [(0, vr 0), (1, vr 1), (2, vr 100), (3, vi i)] _ _ rfl ?_; exact hE _ hZ ⟨(by assumption), (by assumption), (by assumption), (by assumption), (by assumption), (by assumption), (by assumption), (by assumption), (by assumption), (by assumption), (by assumption), (by assumption), (by assumption), trivial⟩)
    | decide
    | (refine (sx hi hL (k := 0) (by decide) ?_).1; simp (disch := omega) only [w32_id]; omega)
    | (with_reducible refine (sx hi hL ?_ rfl).1; decide)
    | (with_reducible refine (sx hi hL ?_ rfl).2; decide)
    | omega
    | (dsimp only; omega)
    | (exfalso; omega)
    | rfl
    | skip
