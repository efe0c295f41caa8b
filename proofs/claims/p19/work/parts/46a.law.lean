/-! ===== the law: its cases ===== -/
abbrev MCL : Mc := (tb_L, PL, clL, oiN, 1, 0)
def QL (r : Option PV) (_ : St) : Prop := r = some (vi 1)
def liS (S : List Nat) : Bool := avo S 104 && (avo S 107 && (avo S 128 && (avo S 121 && (!(S.elem 100) && !(S.elem 31100)))))
theorem LI_av {S : List Nat} {Z Z' : ZT} (h : LI Z) (hI : CI Z') (hk : kp S Z Z') (hS : liS S = true) : LI Z' := by
  unfold liS at hS
  simp only [Bool.and_eq_true] at hS
  obtain ⟨h1, h2, h3, h4, h5, h6⟩ := hS
  have e4 := kp_av hk h1 (by decide)
  have e7 := kp_av hk h2 (by decide)
  have e8 := kp_av hk h3 (by decide)
  have e1 := kp_av hk h4 (by decide)
  have e30 : Z' 100 30 = Z 100 30 := hk 100 30 (by decide) (by simpa using h5) (by simpa using h6)
  exact ⟨hI, E1_eq e4 e7 h.2.1, EB_o e8 h.2.2.1, KB_o e1 h.2.2.2.1, KE_c e1 h.2.2.2.2 (Int.le_of_eq e30)⟩
/-- all but what lies on the lines -/
theorem LI_e1 {S : List Nat} {Z Z' : ZT} (h : LI Z) (hI : CI Z') (hk : kp S Z Z') (hE : E1 Z') (hS : (avo S 128 && (avo S 121 && (!(S.elem 100) && !(S.elem 31100)))) = true) : LI Z' := by
  simp only [Bool.and_eq_true] at hS
  obtain ⟨h3, h4, h5, h6⟩ := hS
  have e8 := kp_av hk h3 (by decide)
  have e1 := kp_av hk h4 (by decide)
  have e30 : Z' 100 30 = Z 100 30 := hk 100 30 (by decide) (by simpa using h5) (by simpa using h6)
  exact ⟨hI, hE, EB_o e8 h.2.2.1, KB_o e1 h.2.2.2.1, KE_c e1 h.2.2.2.2 (Int.le_of_eq e30)⟩
/-- all but the minutes -/
theorem LI_eb {S : List Nat} {Z Z' : ZT} (h : LI Z) (hI : CI Z') (hk : kp S Z Z') (hE : EB Z') (hS : (avo S 104 && (avo S 107 && (avo S 121 && (!(S.elem 100) && !(S.elem 31100))))) = true) : LI Z' := by
  simp only [Bool.and_eq_true] at hS
  obtain ⟨h3, h2, h4, h5, h6⟩ := hS
  have e4 := kp_av hk h3 (by decide)
  have e7 := kp_av hk h2 (by decide)
  have e1 := kp_av hk h4 (by decide)
  have e30 : Z' 100 30 = Z 100 30 := hk 100 30 (by decide) (by simpa using h5) (by simpa using h6)
  exact ⟨hI, E1_eq e4 e7 h.2.1, hE, KB_o e1 h.2.2.2.1, KE_c e1 h.2.2.2.2 (Int.le_of_eq e30)⟩
/-- what is kept, brought back -/
theorem LI_k {S : List Nat} {Z Z' : ZT} (h : LI Z) (hI : CI Z') (hk : kp S Z Z') (hB : KB Z') (hE : E1 Z') (hK : KE Z') (hS : avo S 128 = true) : LI Z' := ⟨hI, hE, EB_o (kp_av hk hS (by decide)) h.2.2.1, hB, hK⟩
/-- what is kept is dropped, perhaps -/
theorem LI_sky {S : List Nat} {Z Z' : ZT} (h : LI Z) (hI : CI Z') (hk : kp S Z Z') (hq : Z' 100 30 = Z 100 30 ∨ Z' 100 30 = 0) (hS : (avo S 104 && (avo S 107 && (avo S 128 && avo S 121))) = true) : LI Z' := by
  simp only [Bool.and_eq_true] at hS
  obtain ⟨h1, h2, h3, h4⟩ := hS
  have e4 := kp_av hk h1 (by decide)
  have e7 := kp_av hk h2 (by decide)
  have e8 := kp_av hk h3 (by decide)
  have e1 := kp_av hk h4 (by decide)
  have q := h.1 100 30 0 2 rfl
  exact ⟨hI, E1_eq e4 e7 h.2.1, EB_o e8 h.2.2.1, KB_o e1 h.2.2.2.1, KE_c e1 h.2.2.2.2 (by omega)⟩
theorem sx {L : Nat} {i k x : Int} (h : 0 ≤ i ∧ i + 7 ≤ (L : Int)) (hL : L ≤ 3584) (hk : 0 ≤ k ∧ k ≤ 6) (hx : x = w32 (i + k)) : 0 ≤ x ∧ x < (L : Int) := by
  subst hx
  rw [w32_id (by omega) (by omega)]
  omega
/-- width and height -/
def RC_dm (Z : ZT) : Prop := (Z 2 0 = Z 100 0 ∧ Z 2 1 = Z 100 1) ∧ Z 2 2 = Z 2 0 * Z 2 1
theorem RC_dm_av {S : List Nat} {Z Z' : ZT} (hk : kp S Z Z') (hS : ((!(S.elem 2) && !(S.elem 1002)) && ((!(S.elem 2) && !(S.elem 2002)) && ((!(S.elem 2) && !(S.elem 3002)) && ((!(S.elem 100) && !(S.elem 1100)) && (!(S.elem 100) && !(S.elem 2100)))))) = true) (h : RC_dm Z) : RC_dm Z' := by
  simp only [Bool.and_eq_true, Bool.not_eq_true'] at hS
  obtain ⟨⟨f0, g0⟩, ⟨f1, g1⟩, ⟨f2, g2⟩, ⟨f3, g3⟩, ⟨f4, g4⟩⟩ := hS
  have d0 : Z' 2 0 = Z 2 0 := hk 2 0 (by decide) (by simpa using f0) (by simpa using g0)
  have d1 : Z' 2 1 = Z 2 1 := hk 2 1 (by decide) (by simpa using f1) (by simpa using g1)
  have d2 : Z' 2 2 = Z 2 2 := hk 2 2 (by decide) (by simpa using f2) (by simpa using g2)
  have d3 : Z' 100 0 = Z 100 0 := hk 100 0 (by decide) (by simpa using f3) (by simpa using g3)
  have d4 : Z' 100 1 = Z 100 1 := hk 100 1 (by decide) (by simpa using f4) (by simpa using g4)
  unfold RC_dm at h ⊢
  simp only [d0, d1, d2, d3, d4]
  exact h
theorem cu_row {Z ZA ZB : ZT} {oA oB n : Nat} {i v xA xB bad : Int} {c d : Prop} (h : ∀ k : Nat, k < n → Z oA k = Z oB k) (pA : xA = bad ∧ ¬c ∧ ZA oA = Z oA ∨ xA = Z oA i.toNat ∧ c ∧ ZA oA = upZ Z oA i.toNat v oA) (pB : xB = bad ∧ ¬d ∧ ZB oB = ZA oB ∨ xB = ZA oB i.toNat ∧ d ∧ ZB oB = upZ ZA oB i.toNat v oB) (fA : ZA oB = Z oB) (fB : ZB oA = ZA oA) (hcd : c ↔ d) (hb : c → i.toNat < n) : xA = xB ∧ ∀ k : Nat, k < n → ZB oA k = ZB oB k := by
  rcases pA with ⟨a1, a2, a3⟩ | ⟨a1, a2, a3⟩
  · rcases pB with ⟨b1, b2, b3⟩ | ⟨b1, b2, b3⟩
    · refine ⟨a1.trans b1.symm, fun k hk => ?_⟩
      rw [fB, a3, b3, fA]
      exact h k hk
    · exact absurd (hcd.mpr b2) a2
  · rcases pB with ⟨b1, b2, b3⟩ | ⟨b1, b2, b3⟩
    · exact absurd (hcd.mp a2) b2
    · refine ⟨?_, fun k hk => ?_⟩
      · rw [a1, b1, fA]
        exact h _ (hb a2)
      · rw [fB, a3, b3]
        by_cases hq : k = i.toNat
        · rw [hq, up_eq, up_eq]
        · rw [up_nk hq, up_nk hq, fA]
          exact h k hk
theorem kp_cls {S : List Nat} {Z Z' : ZT} (h : kp S Z Z') (hS : S.all (fun e => Nat.ble (e % 1000) 99) = true) : ∀ o, 100 ≤ o → o ≤ 130 → Z' o = Z o := fun o h1 h2 => funext fun k => by
  refine h o k (by omega) (fun z => ?_) (fun z => ?_)
  · have w := Nat.le_of_ble_eq_true (List.all_eq_true.mp hS _ z)
    omega
  · have w := Nat.le_of_ble_eq_true (List.all_eq_true.mp hS _ z)
    omega
theorem kp_mod {S : List Nat} {Z Z' : ZT} (h : kp S Z Z') (hS : S.all (fun e => Nat.ble 100 (e % 1000)) = true) : ∀ o, o ≤ 99 → Z' o = Z o := fun o h1 => funext fun k => by
  refine h o k (by omega) (fun z => ?_) (fun z => ?_)
  · have w := Nat.le_of_ble_eq_true (List.all_eq_true.mp hS _ z)
    omega
  · have w := Nat.le_of_ble_eq_true (List.all_eq_true.mp hS _ z)
    omega
theorem cu_cls_dm {Z ZA : ZT} (d0 : ZA 2 0 = Z 2 0) (d1 : ZA 2 1 = Z 2 1) (d2 : ZA 2 2 = Z 2 2 ∨ ZA 2 2 = Z 2 0 * Z 2 1) (m0 : ZA 100 0 = Z 100 0) (m1 : ZA 100 1 = Z 100 1) (h : RC_dm Z) : RC_dm ZA := by
  unfold RC_dm at *
  have q : ZA 2 2 = Z 2 0 * Z 2 1 := by
    rcases d2 with d2 | d2
    · rw [d2]; exact h.2
    · exact d2
  exact ⟨⟨by omega, by omega⟩, by rw [q, d0, d1]⟩
theorem cu_cells {Z ZA : ZT} (h : RC_dm Z) (m0 : ZA 100 0 = Z 100 0) (m1 : ZA 100 1 = Z 100 1) (hI : CI Z) : ZA 100 0 * ZA 100 1 = Z 2 2 ∧ Z 2 2 ≤ 36 ∧ ZA 100 0 = Z 2 0 ∧ ZA 100 1 = Z 2 1 := by
  unfold RC_dm at h
  refine ⟨?_, (hI 2 2 4 36 rfl).2, by omega, by omega⟩
  rw [m0, m1, h.2, h.1.1, h.1.2]
theorem cu_sky_dm {Z ZA ZB : ZT} { a1 a2 xA xB : Int} (pA : (xA = -1 ∧ ¬(2 ≤ a1 ∧ a1 ≤ 6 ∧ 2 ≤ a2 ∧ a2 ≤ 6) ∧ (ZA 2 0 = Z 2 0 ∧ ZA 2 1 = Z 2 1 ∧ ZA 2 2 = Z 2 2 ∧ ZA 1 5 = Z 1 5 ∧ ZA 18 4 = Z 18 4) ∧ (ZA 29 = Z 29 ∧ ZA 89 = Z 89) ∧ (ZA 81 = Z 81 ∧ ZA 82 = Z 82) ∨ xA = a1 * a2 ∧ (2 ≤ a1 ∧ a1 ≤ 6 ∧ 2 ≤ a2 ∧ a2 ≤ 6) ∧ (ZA 2 0 = a1 ∧ ZA 2 1 = a2 ∧ ZA 2 2 = a1 * a2 ∧ ZA 1 5 = 0 ∧ ZA 18 4 = 0) ∧ (FL ZA 29 2000000 144 ∧ FL ZA 89 0 36) ∧ (FL ZA 81 2000000000000 6 ∧ FL ZA 82 2000000000000 6)) ∧ (ZA 18 3 = Z 18 3) ∧ True) (pB : (xB = -1 ∧ ¬(2 ≤ a1 ∧ a1 ≤ 6 ∧ 2 ≤ a2 ∧ a2 ≤ 6) ∧ (ZB 100 0 = ZA 100 0 ∧ ZB 100 1 = ZA 100 1 ∧ ZB 100 30 = ZA 100 30 ∧ ZB 100 19 = ZA 100 19) ∧ (ZB 112 = ZA 112 ∧ ZB 120 = ZA 120) ∧ ZB 117 = ZA 117 ∨ xB = a1 * a2 ∧ (2 ≤ a1 ∧ a1 ≤ 6 ∧ 2 ≤ a2 ∧ a2 ≤ 6) ∧ (ZB 100 0 = a1 ∧ ZB 100 1 = a2 ∧ ZB 100 30 = 0 ∧ ZB 100 19 = 0) ∧ (FL ZB 112 2000000 144 ∧ FL ZB 120 0 36) ∧ FL ZB 117 2000000000000 12) ∧ (ZB 100 30 = ZA 100 30 ∨ ZB 100 30 = 0) ∧ True) (hkA : kp ([1, 2, 3, 18, 29, 70, 72, 74, 76, 78, 81, 82, 88, 89, 91, 93]) Z ZA) (hkB : kp ([112, 117, 120, 1100, 2100, 20100, 31100]) ZA ZB) (hI : CI Z) (h_dm : RC_dm Z)  : xA = xB ∧ RC_dm ZB := by
  have fm := kp_cls hkA (by rfl)
  have fc := kp_mod hkB (by rfl)
  have m100_0 := congrFun (fm 100 (by decide) (by decide)) 0
  have m100_1 := congrFun (fm 100 (by decide) (by decide)) 1
  have c2_0 := congrFun (fc 2 (by decide)) 0
  have c2_1 := congrFun (fc 2 (by decide)) 1
  have c2_2 := congrFun (fc 2 (by decide)) 2
  unfold RC_dm at *
  rcases pA.1 with ⟨a, b, ⟨d0, d1, d2, -⟩, -⟩ | ⟨a, b, ⟨d0, d1, d2, -⟩, -⟩ <;> rcases pB.1 with ⟨e, f, ⟨g0, g1, -⟩, -⟩ | ⟨e, f, ⟨g0, g1, -⟩, -⟩
  · exact ⟨a.trans e.symm, ⟨by omega, by omega⟩, by rw [c2_0, c2_1, c2_2, d0, d1, d2]; exact h_dm.2⟩
  · exact absurd f b
  · exact absurd b f
  · exact ⟨a.trans e.symm, ⟨by omega, by omega⟩, by rw [c2_0, c2_1, c2_2, d0, d1, d2]⟩
theorem cu_tell {Z ZA ZB : ZT} { a1 a2 a3 a4 a5 xA xB : Int} (pA : (xA = -1 ∧ ¬(0 ≤ a1 ∧ a1 ≤ 12 ∧ 0 ≤ a2 ∧ a2 ≤ 3 ∧ 0 ≤ a4 ∧ (a3 = 0 ∧ a4 < Z 2 1 ∨ a3 ≠ 0 ∧ a4 < Z 2 0) ∧ (-1000000000000 ≤ a5 ∧ a5 ≤ 1000000000000 ∨ a5 = 2000000000000)) ∨ xA = 0 ∧ (0 ≤ a1 ∧ a1 ≤ 12 ∧ 0 ≤ a2 ∧ a2 ≤ 3 ∧ 0 ≤ a4 ∧ (a3 = 0 ∧ a4 < Z 2 1 ∨ a3 ≠ 0 ∧ a4 < Z 2 0) ∧ (-1000000000000 ≤ a5 ∧ a5 ≤ 1000000000000 ∨ a5 = 2000000000000))) ∧ True) (pB : (xB = -1 ∧ ¬(0 ≤ a1 ∧ a1 ≤ 12 ∧ 0 ≤ a2 ∧ a2 ≤ 3 ∧ 0 ≤ a4 ∧ (a3 = 0 ∧ a4 < ZA 100 1 ∨ a3 ≠ 0 ∧ a4 < ZA 100 0) ∧ (-1000000000000 ≤ a5 ∧ a5 ≤ 1000000000000 ∨ a5 = 2000000000000)) ∨ xB = 0 ∧ (0 ≤ a1 ∧ a1 ≤ 12 ∧ 0 ≤ a2 ∧ a2 ≤ 3 ∧ 0 ≤ a4 ∧ (a3 = 0 ∧ a4 < ZA 100 1 ∨ a3 ≠ 0 ∧ a4 < ZA 100 0) ∧ (-1000000000000 ≤ a5 ∧ a5 ≤ 1000000000000 ∨ a5 = 2000000000000))) ∧ True) (hkA : kp ([80, 81, 82]) Z ZA) (hkB : kp ([117, 25100, 26100]) ZA ZB) (hI : CI Z) (h_dm : RC_dm Z)  : xA = xB := by
  have fm := kp_cls hkA (by rfl)
  have fc := kp_mod hkB (by rfl)
  obtain ⟨-, -, e0, e1⟩ := cu_cells h_dm (congrFun (fm 100 (by decide) (by decide)) 0) (congrFun (fm 100 (by decide) (by decide)) 1) hI
  rw [e0, e1] at pB
  rcases pA.1 with ⟨a, b⟩ | ⟨a, b⟩ <;> rcases pB.1 with ⟨e, f⟩ | ⟨e, f⟩
  · exact a.trans e.symm
  · exact absurd f b
  · exact absurd b f
  · exact a.trans e.symm
/-- what class and reference have alike between calls -/
def RLX (Z : ZT) : Prop := RC_dm Z ∧ True
set_option maxRecDepth 100000 in
set_option maxHeartbeats 40000000 in
theorem lc_0 {L : Nat} {xs : Nat → Int} {G : GT} (hG : Clo MCL 130 (some (L, xs)) QL G) {i : Int} (hi : 0 ≤ i ∧ i + 7 ≤ (L : Int)) (hL : L ≤ 3584) {Z : ZT} (hZ : LI Z) (hR : RLX Z) (hE : ∀ Z1, LI Z1 → RLX Z1 → G 1299 [(0, vr 0), (1, vr 1), (2, vr 100), (3, vi i)] [] (130, Z1, R0)) : G 180 [(0, vr 0), (1, vr 1), (2, vr 100), (3, vi i)] [] (130, Z, R0) := by
  obtain ⟨h_dm, -⟩ := hR
  have o_dm := h_dm
  have hCI := hZ.1
  refine wp_run hG [1299] 200 _ _ _ _ ?_
  repeat' (first
    | with_reducible rfl
    | refine And.intro ?_ ?_
    | (intro (r : Option PV) σ' hq
       first
       | (obtain ⟨rfl, rfl⟩ := hq)
       | (obtain ⟨rfl, x, rfl, hp⟩ := hq; (try replace hp : _ ∧ _ := hp); (try dsimp only at hp))
       | (obtain ⟨Z', x, rfl, rfl, hI2, hk2, hp⟩ := hq; (try replace hp : _ ∧ _ := hp); (try dsimp only at hp); (first | have hk3 := kp_of hk2 | have hk3 := hk2); (first | have hZ := LI_av hZ hI2 hk3 (by rfl) | have hZ := LI_sky hZ hI2 hk3 hp.2.1 (by rfl) | skip); (first | have h_dm := RC_dm_av hk3 (by rfl) h_dm | skip); (first | (have hk0 := hkA; clear hk0; have hkB := hk3; (try have hpB := hp); (obtain ⟨hx, h_dm⟩ := cu_sky_dm hpA hpB hkA hkB hCI o_dm; (try dsimp only at hx))) | (have hkA := hk3; (try have hpA := hp); skip)))
       | (obtain ⟨Z', x, rfl, rfl, hI2, hk2⟩ := hq; (first | have hk3 := kp_of hk2 | have hk3 := hk2); (first | have hZ := LI_av hZ hI2 hk3 (by rfl) | have hZ := LI_sky hZ hI2 hk3 hp.2.1 (by rfl) | skip); (first | have h_dm := RC_dm_av hk3 (by rfl) h_dm | skip); (first | (have hk0 := hkA; clear hk0; have hkB := hk3; (try have hpB := hp); (obtain ⟨hx, h_dm⟩ := cu_sky_dm hpA hpB hkA hkB hCI o_dm; (try dsimp only at hx))) | (have hkA := hk3; (try have hpA := hp); skip)))
       | (rcases hq with ⟨Z', rfl, rfl, hI2, hk2⟩ | ⟨Z', rfl, rfl, hI2, hk2⟩ <;> ((first | have hk3 := kp_of hk2 | have hk3 := hk2); (first | have hZ := LI_av hZ hI2 hk3 (by rfl) | have hZ := LI_sky hZ hI2 hk3 hp.2.1 (by rfl) | skip); (first | have h_dm := RC_dm_av hk3 (by rfl) h_dm | skip); (first | (have hk0 := hkA; clear hk0; have hkB := hk3; (try have hpB := hp); (obtain ⟨hx, h_dm⟩ := cu_sky_dm hpA hpB hkA hkB hCI o_dm; (try dsimp only at hx))) | (have hkA := hk3; (try have hpA := hp); skip))))
       | (obtain ⟨Z', rfl, rfl, hI2, hk2, hp⟩ := hq; (first | have hk3 := kp_of hk2 | have hk3 := hk2); (first | have hZ := LI_av hZ hI2 hk3 (by rfl) | have hZ := LI_sky hZ hI2 hk3 hp.2.1 (by rfl) | skip); (first | have h_dm := RC_dm_av hk3 (by rfl) h_dm | skip); (first | (have hk0 := hkA; clear hk0; have hkB := hk3; (try have hpB := hp); (obtain ⟨hx, h_dm⟩ := cu_sky_dm hpA hpB hkA hkB hCI o_dm; (try dsimp only at hx))) | (have hkA := hk3; (try have hpA := hp); skip)))
       | (obtain ⟨Z', rfl, rfl, hI2, hk2⟩ := hq; (first | have hk3 := kp_of hk2 | have hk3 := hk2); (first | have hZ := LI_av hZ hI2 hk3 (by rfl) | have hZ := LI_sky hZ hI2 hk3 hp.2.1 (by rfl) | skip); (first | have h_dm := RC_dm_av hk3 (by rfl) h_dm | skip); (first | (have hk0 := hkA; clear hk0; have hkB := hk3; (try have hpB := hp); (obtain ⟨hx, h_dm⟩ := cu_sky_dm hpA hpB hkA hkB hCI o_dm; (try dsimp only at hx))) | (have hkA := hk3; (try have hpA := hp); skip))))
    | (intro hc; (try simp only [cmp3_c] at hc); simp only [cmpI] at hc))
  all_goals first
    | with_reducible rfl
    | ((with_reducible show recvG _ _); rfl)
    | with_reducible exact trivial
    | ((with_reducible show CI _); exact hZ.1)
    | ((with_reducible show E1 _); exact hZ.2.1)
    | ((with_reducible show EB _); exact hZ.2.2.1)
    | ((with_reducible show KB _); exact hZ.2.2.2.1)
    | ((with_reducible show KE _); exact hZ.2.2.2.2)
    | (refine hG.2 1299 _ [(0, vr 0), (1, vr 1), (2, vr 100), (3, vi i)] _ _ rfl ?_; exact hE _ hZ ⟨(by assumption), trivial⟩)
    | decide
    | (refine (sx hi hL (k := 0) (by decide) ?_).1; simp (disch := omega) only [w32_id]; omega)
    | (with_reducible refine (sx hi hL ?_ rfl).1; decide)
    | (with_reducible refine (sx hi hL ?_ rfl).2; decide)
    | omega
    | (dsimp only; omega)
    | (exfalso; omega)
    | rfl
    | skip

set_option maxRecDepth 100000 in
set_option maxHeartbeats 40000000 in
theorem lc_1 {L : Nat} {xs : Nat → Int} {G : GT} (hG : Clo MCL 130 (some (L, xs)) QL G) {i : Int} (hi : 0 ≤ i ∧ i + 7 ≤ (L : Int)) (hL : L ≤ 3584) {Z : ZT} (hZ : LI Z) (hR : RLX Z) (hE : ∀ Z1, LI Z1 → RLX Z1 → G 1299 [(0, vr 0), (1, vr 1), (2, vr 100), (3, vi i)] [] (130, Z1, R0)) : G 213 [(0, vr 0), (1, vr 1), (2, vr 100), (3, vi i)] [] (130, Z, R0) := by
  obtain ⟨h_dm, -⟩ := hR
  have o_dm := h_dm
  have hCI := hZ.1
  refine wp_run hG [1299] 200 _ _ _ _ ?_
  repeat' (first
    | with_reducible rfl
    | refine And.intro ?_ ?_
    | (intro (r : Option PV) σ' hq
       first
       | (obtain ⟨rfl, rfl⟩ := hq)
       | (obtain ⟨rfl, x, rfl, hp⟩ := hq; (try replace hp : _ ∧ _ := hp); (try dsimp only at hp))
       | (obtain ⟨Z', x, rfl, rfl, hI2, hk2, hp⟩ := hq; (try replace hp : _ ∧ _ := hp); (try dsimp only at hp); (first | have hk3 := kp_of hk2 | have hk3 := hk2); (first | have hZ := LI_av hZ hI2 hk3 (by rfl) | skip); (first | have h_dm := RC_dm_av hk3 (by rfl) h_dm | skip); (first | (have hk0 := hkA; clear hk0; have hkB := hk3; (try have hpB := hp); skip) | (have hkA := hk3; (try have hpA := hp); (have h_dm := cu_cls_dm hpA.2.2.1 hpA.2.2.2.1 hpA.2.2.2.2.1 (kpF 100 0 hkA (by rfl)) (kpF 100 1 hkA (by rfl)) h_dm))))
       | (obtain ⟨Z', x, rfl, rfl, hI2, hk2⟩ := hq; (first | have hk3 := kp_of hk2 | have hk3 := hk2); (first | have hZ := LI_av hZ hI2 hk3 (by rfl) | skip); (first | have h_dm := RC_dm_av hk3 (by rfl) h_dm | skip); (first | (have hk0 := hkA; clear hk0; have hkB := hk3; (try have hpB := hp); skip) | (have hkA := hk3; (try have hpA := hp); (have h_dm := cu_cls_dm hpA.2.2.1 hpA.2.2.2.1 hpA.2.2.2.2.1 (kpF 100 0 hkA (by rfl)) (kpF 100 1 hkA (by rfl)) h_dm))))
       | (rcases hq with ⟨Z', rfl, rfl, hI2, hk2⟩ | ⟨Z', rfl, rfl, hI2, hk2⟩ <;> ((first | have hk3 := kp_of hk2 | have hk3 := hk2); (first | have hZ := LI_av hZ hI2 hk3 (by rfl) | skip); (first | have h_dm := RC_dm_av hk3 (by rfl) h_dm | skip); (first | (have hk0 := hkA; clear hk0; have hkB := hk3; (try have hpB := hp); skip) | (have hkA := hk3; (try have hpA := hp); (have h_dm := cu_cls_dm hpA.2.2.1 hpA.2.2.2.1 hpA.2.2.2.2.1 (kpF 100 0 hkA (by rfl)) (kpF 100 1 hkA (by rfl)) h_dm)))))
       | (obtain ⟨Z', rfl, rfl, hI2, hk2, hp⟩ := hq; (first | have hk3 := kp_of hk2 | have hk3 := hk2); (first | have hZ := LI_av hZ hI2 hk3 (by rfl) | skip); (first | have h_dm := RC_dm_av hk3 (by rfl) h_dm | skip); (first | (have hk0 := hkA; clear hk0; have hkB := hk3; (try have hpB := hp); skip) | (have hkA := hk3; (try have hpA := hp); (have h_dm := cu_cls_dm hpA.2.2.1 hpA.2.2.2.1 hpA.2.2.2.2.1 (kpF 100 0 hkA (by rfl)) (kpF 100 1 hkA (by rfl)) h_dm))))
       | (obtain ⟨Z', rfl, rfl, hI2, hk2⟩ := hq; (first | have hk3 := kp_of hk2 | have hk3 := hk2); (first | have hZ := LI_av hZ hI2 hk3 (by rfl) | skip); (first | have h_dm := RC_dm_av hk3 (by rfl) h_dm | skip); (first | (have hk0 := hkA; clear hk0; have hkB := hk3; (try have hpB := hp); skip) | (have hkA := hk3; (try have hpA := hp); (have h_dm := cu_cls_dm hpA.2.2.1 hpA.2.2.2.1 hpA.2.2.2.2.1 (kpF 100 0 hkA (by rfl)) (kpF 100 1 hkA (by rfl)) h_dm)))))
    | (intro hc; (try simp only [cmp3_c] at hc); simp only [cmpI] at hc))
  all_goals first
    | with_reducible rfl
    | ((with_reducible show recvG _ _); rfl)
    | with_reducible exact trivial
    | ((with_reducible show CI _); exact hZ.1)
    | ((with_reducible show E1 _); exact hZ.2.1)
    | ((with_reducible show EB _); exact hZ.2.2.1)
    | ((with_reducible show KB _); exact hZ.2.2.2.1)
    | ((with_reducible show KE _); exact hZ.2.2.2.2)
    | (refine hG.2 1299 _ [(0, vr 0), (1, vr 1), (2, vr 100), (3, vi i)] _ _ rfl ?_; exact hE _ hZ ⟨(by assumption), trivial⟩)
    | decide
    | (refine (sx hi hL (k := 0) (by decide) ?_).1; simp (disch := omega) only [w32_id]; omega)
    | (with_reducible refine (sx hi hL ?_ rfl).1; decide)
    | (with_reducible refine (sx hi hL ?_ rfl).2; decide)
    | omega
    | (dsimp only; omega)
    | (exfalso; omega)
    | rfl
    | skip

set_option maxRecDepth 100000 in
set_option maxHeartbeats 40000000 in
theorem lc_2 {L : Nat} {xs : Nat → Int} {G : GT} (hG : Clo MCL 130 (some (L, xs)) QL G) {i : Int} (hi : 0 ≤ i ∧ i + 7 ≤ (L : Int)) (hL : L ≤ 3584) {Z : ZT} (hZ : LI Z) (hR : RLX Z) (hE : ∀ Z1, LI Z1 → RLX Z1 → G 1299 [(0, vr 0), (1, vr 1), (2, vr 100), (3, vi i)] [] (130, Z1, R0)) : G 246 [(0, vr 0), (1, vr 1), (2, vr 100), (3, vi i)] [] (130, Z, R0) := by
  obtain ⟨h_dm, -⟩ := hR
  have o_dm := h_dm
  have hCI := hZ.1
  refine wp_run hG [1299] 200 _ _ _ _ ?_
  repeat' (first
    | with_reducible rfl
    | refine And.intro ?_ ?_
    | (intro (r : Option PV) σ' hq
       first
       | (obtain ⟨rfl, rfl⟩ := hq)
       | (obtain ⟨rfl, x, rfl, hp⟩ := hq; (try replace hp : _ ∧ _ := hp); (try dsimp only at hp))
       | (obtain ⟨Z', x, rfl, rfl, hI2, hk2, hp⟩ := hq; (try replace hp : _ ∧ _ := hp); (try dsimp only at hp); (first | have hk3 := kp_of hk2 | have hk3 := hk2); (first | have hZ := LI_av hZ hI2 hk3 (by rfl) | skip); (first | have h_dm := RC_dm_av hk3 (by rfl) h_dm | skip))
       | (obtain ⟨Z', x, rfl, rfl, hI2, hk2⟩ := hq; (first | have hk3 := kp_of hk2 | have hk3 := hk2); (first | have hZ := LI_av hZ hI2 hk3 (by rfl) | skip); (first | have h_dm := RC_dm_av hk3 (by rfl) h_dm | skip))
       | (rcases hq with ⟨Z', rfl, rfl, hI2, hk2⟩ | ⟨Z', rfl, rfl, hI2, hk2⟩ <;> ((first | have hk3 := kp_of hk2 | have hk3 := hk2); (first | have hZ := LI_av hZ hI2 hk3 (by rfl) | skip); (first | have h_dm := RC_dm_av hk3 (by rfl) h_dm | skip)))
       | (obtain ⟨Z', rfl, rfl, hI2, hk2, hp⟩ := hq; (first | have hk3 := kp_of hk2 | have hk3 := hk2); (first | have hZ := LI_av hZ hI2 hk3 (by rfl) | skip); (first | have h_dm := RC_dm_av hk3 (by rfl) h_dm | skip))
       | (obtain ⟨Z', rfl, rfl, hI2, hk2⟩ := hq; (first | have hk3 := kp_of hk2 | have hk3 := hk2); (first | have hZ := LI_av hZ hI2 hk3 (by rfl) | skip); (first | have h_dm := RC_dm_av hk3 (by rfl) h_dm | skip)))
    | (intro hc; (try simp only [cmp3_c] at hc); simp only [cmpI] at hc))
  all_goals first
    | with_reducible rfl
    | ((with_reducible show recvG _ _); rfl)
    | with_reducible exact trivial
    | ((with_reducible show CI _); exact hZ.1)
    | ((with_reducible show E1 _); exact hZ.2.1)
    | ((with_reducible show EB _); exact hZ.2.2.1)
    | ((with_reducible show KB _); exact hZ.2.2.2.1)
    | ((with_reducible show KE _); exact hZ.2.2.2.2)
    | (refine hG.2 1299 _ [(0, vr 0), (1, vr 1), (2, vr 100), (3, vi i)] _ _ rfl ?_; exact hE _ hZ ⟨(by assumption), trivial⟩)
    | decide
    | (refine (sx hi hL (k := 0) (by decide) ?_).1; simp (disch := omega) only [w32_id]; omega)
    | (with_reducible refine (sx hi hL ?_ rfl).1; decide)
    | (with_reducible refine (sx hi hL ?_ rfl).2; decide)
    | omega
    | (dsimp only; omega)
    | (exfalso; omega)
    | rfl
    | skip

set_option maxRecDepth 100000 in
set_option maxHeartbeats 40000000 in
theorem lc_3 {L : Nat} {xs : Nat → Int} {G : GT} (hG : Clo MCL 130 (some (L, xs)) QL G) {i : Int} (hi : 0 ≤ i ∧ i + 7 ≤ (L : Int)) (hL : L ≤ 3584) {Z : ZT} (hZ : LI Z) (hR : RLX Z) (hE : ∀ Z1, LI Z1 → RLX Z1 → G 1299 [(0, vr 0), (1, vr 1), (2, vr 100), (3, vi i)] [] (130, Z1, R0)) : G 279 [(0, vr 0), (1, vr 1), (2, vr 100), (3, vi i)] [] (130, Z, R0) := by
  obtain ⟨h_dm, -⟩ := hR
  have o_dm := h_dm
  have hCI := hZ.1
  refine wp_run hG [1299] 200 _ _ _ _ ?_
  repeat' (first
    | with_reducible rfl
    | refine And.intro ?_ ?_
    | (intro (r : Option PV) σ' hq
       first
       | (obtain ⟨rfl, rfl⟩ := hq)
       | (obtain ⟨rfl, x, rfl, hp⟩ := hq; (try replace hp : _ ∧ _ := hp); (try dsimp only at hp))
       | (obtain ⟨Z', x, rfl, rfl, hI2, hk2, hp⟩ := hq; (try replace hp : _ ∧ _ := hp); (try dsimp only at hp); (first | have hk3 := kp_of hk2 | have hk3 := hk2); (first | have hZ := LI_av hZ hI2 hk3 (by rfl) | skip); (first | have h_dm := RC_dm_av hk3 (by rfl) h_dm | skip))
       | (obtain ⟨Z', x, rfl, rfl, hI2, hk2⟩ := hq; (first | have hk3 := kp_of hk2 | have hk3 := hk2); (first | have hZ := LI_av hZ hI2 hk3 (by rfl) | skip); (first | have h_dm := RC_dm_av hk3 (by rfl) h_dm | skip))
       | (rcases hq with ⟨Z', rfl, rfl, hI2, hk2⟩ | ⟨Z', rfl, rfl, hI2, hk2⟩ <;> ((first | have hk3 := kp_of hk2 | have hk3 := hk2); (first | have hZ := LI_av hZ hI2 hk3 (by rfl) | skip); (first | have h_dm := RC_dm_av hk3 (by rfl) h_dm | skip)))
       | (obtain ⟨Z', rfl, rfl, hI2, hk2, hp⟩ := hq; (first | have hk3 := kp_of hk2 | have hk3 := hk2); (first | have hZ := LI_av hZ hI2 hk3 (by rfl) | skip); (first | have h_dm := RC_dm_av hk3 (by rfl) h_dm | skip))
       | (obtain ⟨Z', rfl, rfl, hI2, hk2⟩ := hq; (first | have hk3 := kp_of hk2 | have hk3 := hk2); (first | have hZ := LI_av hZ hI2 hk3 (by rfl) | skip); (first | have h_dm := RC_dm_av hk3 (by rfl) h_dm | skip)))
    | (intro hc; (try simp only [cmp3_c] at hc); simp only [cmpI] at hc))
  all_goals first
    | with_reducible rfl
    | ((with_reducible show recvG _ _); rfl)
    | with_reducible exact trivial
    | ((with_reducible show CI _); exact hZ.1)
    | ((with_reducible show E1 _); exact hZ.2.1)
    | ((with_reducible show EB _); exact hZ.2.2.1)
    | ((with_reducible show KB _); exact hZ.2.2.2.1)
    | ((with_reducible show KE _); exact hZ.2.2.2.2)
    | (refine hG.2 1299 _ [(0, vr 0), (1, vr 1), (2, vr 100), (3, vi i)] _ _ rfl ?_; exact hE _ hZ ⟨(by assumption), trivial⟩)
    | decide
    | (refine (sx hi hL (k := 0) (by decide) ?_).1; simp (disch := omega) only [w32_id]; omega)
    | (with_reducible refine (sx hi hL ?_ rfl).1; decide)
    | (with_reducible refine (sx hi hL ?_ rfl).2; decide)
    | omega
    | (dsimp only; omega)
    | (exfalso; omega)
    | rfl
    | skip

set_option maxRecDepth 100000 in
set_option maxHeartbeats 40000000 in
theorem lc_4 {L : Nat} {xs : Nat → Int} {G : GT} (hG : Clo MCL 130 (some (L, xs)) QL G) {i : Int} (hi : 0 ≤ i ∧ i + 7 ≤ (L : Int)) (hL : L ≤ 3584) {Z : ZT} (hZ : LI Z) (hR : RLX Z) (hE : ∀ Z1, LI Z1 → RLX Z1 → G 1299 [(0, vr 0), (1, vr 1), (2, vr 100), (3, vi i)] [] (130, Z1, R0)) : G 342 [(0, vr 0), (1, vr 1), (2, vr 100), (3, vi i)] [] (130, Z, R0) := by
  obtain ⟨h_dm, -⟩ := hR
  have o_dm := h_dm
  have hCI := hZ.1
  refine wp_run hG [1299] 200 _ _ _ _ ?_
  repeat' (first
    | with_reducible rfl
    | refine And.intro ?_ ?_
    | (intro (r : Option PV) σ' hq
       first
       | (obtain ⟨rfl, rfl⟩ := hq)
       | (obtain ⟨rfl, x, rfl, hp⟩ := hq; (try replace hp : _ ∧ _ := hp); (try dsimp only at hp))
       | (obtain ⟨Z', x, rfl, rfl, hI2, hk2, hp⟩ := hq; (try replace hp : _ ∧ _ := hp); (try dsimp only at hp); (first | have hk3 := kp_of hk2 | have hk3 := hk2); (first | have hZ := LI_av hZ hI2 hk3 (by rfl) | skip); (first | have h_dm := RC_dm_av hk3 (by rfl) h_dm | skip))
       | (obtain ⟨Z', x, rfl, rfl, hI2, hk2⟩ := hq; (first | have hk3 := kp_of hk2 | have hk3 := hk2); (first | have hZ := LI_av hZ hI2 hk3 (by rfl) | skip); (first | have h_dm := RC_dm_av hk3 (by rfl) h_dm | skip))
       | (rcases hq with ⟨Z', rfl, rfl, hI2, hk2⟩ | ⟨Z', rfl, rfl, hI2, hk2⟩ <;> ((first | have hk3 := kp_of hk2 | have hk3 := hk2); (first | have hZ := LI_av hZ hI2 hk3 (by rfl) | skip); (first | have h_dm := RC_dm_av hk3 (by rfl) h_dm | skip)))
       | (obtain ⟨Z', rfl, rfl, hI2, hk2, hp⟩ := hq; (first | have hk3 := kp_of hk2 | have hk3 := hk2); (first | have hZ := LI_av hZ hI2 hk3 (by rfl) | skip); (first | have h_dm := RC_dm_av hk3 (by rfl) h_dm | skip))
       | (obtain ⟨Z', rfl, rfl, hI2, hk2⟩ := hq; (first | have hk3 := kp_of hk2 | have hk3 := hk2); (first | have hZ := LI_av hZ hI2 hk3 (by rfl) | skip); (first | have h_dm := RC_dm_av hk3 (by rfl) h_dm | skip)))
    | (intro hc; (try simp only [cmp3_c] at hc); simp only [cmpI] at hc))
  all_goals first
    | with_reducible rfl
    | ((with_reducible show recvG _ _); rfl)
    | with_reducible exact trivial
    | ((with_reducible show CI _); exact hZ.1)
    | ((with_reducible show E1 _); exact hZ.2.1)
    | ((with_reducible show EB _); exact hZ.2.2.1)
    | ((with_reducible show KB _); exact hZ.2.2.2.1)
    | ((with_reducible show KE _); exact hZ.2.2.2.2)
    | (refine hG.2 1299 _ [(0, vr 0), (1, vr 1), (2, vr 100), (3, vi i)] _ _ rfl ?_; exact hE _ hZ ⟨(by assumption), trivial⟩)
    | decide
    | (refine (sx hi hL (k := 0) (by decide) ?_).1; simp (disch := omega) only [w32_id]; omega)
    | (with_reducible refine (sx hi hL ?_ rfl).1; decide)
    | (with_reducible refine (sx hi hL ?_ rfl).2; decide)
    | omega
    | (dsimp only; omega)
    | (exfalso; omega)
    | rfl
    | skip

set_option maxRecDepth 100000 in
set_option maxHeartbeats 40000000 in
theorem lc_5 {L : Nat} {xs : Nat → Int} {G : GT} (hG : Clo MCL 130 (some (L, xs)) QL G) {i : Int} (hi : 0 ≤ i ∧ i + 7 ≤ (L : Int)) (hL : L ≤ 3584) {Z : ZT} (hZ : LI Z) (hR : RLX Z) (hE : ∀ Z1, LI Z1 → RLX Z1 → G 1299 [(0, vr 0), (1, vr 1), (2, vr 100), (3, vi i)] [] (130, Z1, R0)) : G 355 [(0, vr 0), (1, vr 1), (2, vr 100), (3, vi i)] [] (130, Z, R0) := by
  obtain ⟨h_dm, -⟩ := hR
  have o_dm := h_dm
  have hCI := hZ.1
  refine wp_run hG [1299] 200 _ _ _ _ ?_
  repeat' (first
    | with_reducible rfl
    | refine And.intro ?_ ?_
    | (intro (r : Option PV) σ' hq
       first
       | (obtain ⟨rfl, rfl⟩ := hq)
       | (obtain ⟨rfl, x, rfl, hp⟩ := hq; (try replace hp : _ ∧ _ := hp); (try dsimp only at hp))
       | (obtain ⟨Z', x, rfl, rfl, hI2, hk2, hp⟩ := hq; (try replace hp : _ ∧ _ := hp); (try dsimp only at hp); (first | have hk3 := kp_of hk2 | have hk3 := hk2); (first | have hZ := LI_av hZ hI2 hk3 (by rfl) | have hZ := LI_e1 hZ hI2 hk3 hp.1 (by rfl) | skip); (first | have h_dm := RC_dm_av hk3 (by rfl) h_dm | skip))
       | (obtain ⟨Z', x, rfl, rfl, hI2, hk2⟩ := hq; (first | have hk3 := kp_of hk2 | have hk3 := hk2); (first | have hZ := LI_av hZ hI2 hk3 (by rfl) | have hZ := LI_e1 hZ hI2 hk3 hp.1 (by rfl) | skip); (first | have h_dm := RC_dm_av hk3 (by rfl) h_dm | skip))
       | (rcases hq with ⟨Z', rfl, rfl, hI2, hk2⟩ | ⟨Z', rfl, rfl, hI2, hk2⟩ <;> ((first | have hk3 := kp_of hk2 | have hk3 := hk2); (first | have hZ := LI_av hZ hI2 hk3 (by rfl) | have hZ := LI_e1 hZ hI2 hk3 hp.1 (by rfl) | skip); (first | have h_dm := RC_dm_av hk3 (by rfl) h_dm | skip)))
       | (obtain ⟨Z', rfl, rfl, hI2, hk2, hp⟩ := hq; (first | have hk3 := kp_of hk2 | have hk3 := hk2); (first | have hZ := LI_av hZ hI2 hk3 (by rfl) | have hZ := LI_e1 hZ hI2 hk3 hp.1 (by rfl) | skip); (first | have h_dm := RC_dm_av hk3 (by rfl) h_dm | skip))
       | (obtain ⟨Z', rfl, rfl, hI2, hk2⟩ := hq; (first | have hk3 := kp_of hk2 | have hk3 := hk2); (first | have hZ := LI_av hZ hI2 hk3 (by rfl) | have hZ := LI_e1 hZ hI2 hk3 hp.1 (by rfl) | skip); (first | have h_dm := RC_dm_av hk3 (by rfl) h_dm | skip)))
    | (intro hc; (try simp only [cmp3_c] at hc); simp only [cmpI] at hc))
  all_goals first
    | with_reducible rfl
    | ((with_reducible show recvG _ _); rfl)
    | with_reducible exact trivial
    | ((with_reducible show CI _); exact hZ.1)
    | ((with_reducible show E1 _); exact hZ.2.1)
    | ((with_reducible show EB _); exact hZ.2.2.1)
    | ((with_reducible show KB _); exact hZ.2.2.2.1)
    | ((with_reducible show KE _); exact hZ.2.2.2.2)
    | (refine hG.2 1299 _ [(0, vr 0), (1, vr 1), (2, vr 100), (3, vi i)] _ _ rfl ?_; exact hE _ hZ ⟨(by assumption), trivial⟩)
    | decide
    | (refine (sx hi hL (k := 0) (by decide) ?_).1; simp (disch := omega) only [w32_id]; omega)
    | (with_reducible refine (sx hi hL ?_ rfl).1; decide)
    | (with_reducible refine (sx hi hL ?_ rfl).2; decide)
    | omega
    | (dsimp only; omega)
    | (exfalso; omega)
    | rfl
    | skip

set_option maxRecDepth 100000 in
set_option maxHeartbeats 40000000 in
theorem lc_6 {L : Nat} {xs : Nat → Int} {G : GT} (hG : Clo MCL 130 (some (L, xs)) QL G) {i : Int} (hi : 0 ≤ i ∧ i + 7 ≤ (L : Int)) (hL : L ≤ 3584) {Z : ZT} (hZ : LI Z) (hR : RLX Z) (hE : ∀ Z1, LI Z1 → RLX Z1 → G 1299 [(0, vr 0), (1, vr 1), (2, vr 100), (3, vi i)] [] (130, Z1, R0)) : G 368 [(0, vr 0), (1, vr 1), (2, vr 100), (3, vi i)] [] (130, Z, R0) := by
  obtain ⟨h_dm, -⟩ := hR
  have o_dm := h_dm
  have hCI := hZ.1
  refine wp_run hG [1299] 200 _ _ _ _ ?_
  repeat' (first
    | with_reducible rfl
    | refine And.intro ?_ ?_
    | (intro (r : Option PV) σ' hq
       first
       | (obtain ⟨rfl, rfl⟩ := hq)
       | (obtain ⟨rfl, x, rfl, hp⟩ := hq; (try replace hp : _ ∧ _ := hp); (try dsimp only at hp))
       | (obtain ⟨Z', x, rfl, rfl, hI2, hk2, hp⟩ := hq; (try replace hp : _ ∧ _ := hp); (try dsimp only at hp); (first | have hk3 := kp_of hk2 | have hk3 := hk2); (first | have hZ := LI_av hZ hI2 hk3 (by rfl) | have hZ := LI_e1 hZ hI2 hk3 hp.1 (by rfl) | skip); (first | have h_dm := RC_dm_av hk3 (by rfl) h_dm | skip))
       | (obtain ⟨Z', x, rfl, rfl, hI2, hk2⟩ := hq; (first | have hk3 := kp_of hk2 | have hk3 := hk2); (first | have hZ := LI_av hZ hI2 hk3 (by rfl) | have hZ := LI_e1 hZ hI2 hk3 hp.1 (by rfl) | skip); (first | have h_dm := RC_dm_av hk3 (by rfl) h_dm | skip))
       | (rcases hq with ⟨Z', rfl, rfl, hI2, hk2⟩ | ⟨Z', rfl, rfl, hI2, hk2⟩ <;> ((first | have hk3 := kp_of hk2 | have hk3 := hk2); (first | have hZ := LI_av hZ hI2 hk3 (by rfl) | have hZ := LI_e1 hZ hI2 hk3 hp.1 (by rfl) | skip); (first | have h_dm := RC_dm_av hk3 (by rfl) h_dm | skip)))
       | (obtain ⟨Z', rfl, rfl, hI2, hk2, hp⟩ := hq; (first | have hk3 := kp_of hk2 | have hk3 := hk2); (first | have hZ := LI_av hZ hI2 hk3 (by rfl) | have hZ := LI_e1 hZ hI2 hk3 hp.1 (by rfl) | skip); (first | have h_dm := RC_dm_av hk3 (by rfl) h_dm | skip))
       | (obtain ⟨Z', rfl, rfl, hI2, hk2⟩ := hq; (first | have hk3 := kp_of hk2 | have hk3 := hk2); (first | have hZ := LI_av hZ hI2 hk3 (by rfl) | have hZ := LI_e1 hZ hI2 hk3 hp.1 (by rfl) | skip); (first | have h_dm := RC_dm_av hk3 (by rfl) h_dm | skip)))
    | (intro hc; (try simp only [cmp3_c] at hc); simp only [cmpI] at hc))
  all_goals first
    | with_reducible rfl
    | ((with_reducible show recvG _ _); rfl)
    | with_reducible exact trivial
    | ((with_reducible show CI _); exact hZ.1)
    | ((with_reducible show E1 _); exact hZ.2.1)
    | ((with_reducible show EB _); exact hZ.2.2.1)
    | ((with_reducible show KB _); exact hZ.2.2.2.1)
    | ((with_reducible show KE _); exact hZ.2.2.2.2)
    | (refine hG.2 1299 _ [(0, vr 0), (1, vr 1), (2, vr 100), (3, vi i)] _ _ rfl ?_; exact hE _ hZ ⟨(by assumption), trivial⟩)
    | decide
    | (refine (sx hi hL (k := 0) (by decide) ?_).1; simp (disch := omega) only [w32_id]; omega)
    | (with_reducible refine (sx hi hL ?_ rfl).1; decide)
    | (with_reducible refine (sx hi hL ?_ rfl).2; decide)
    | omega
    | (dsimp only; omega)
    | (exfalso; omega)
    | rfl
    | skip

set_option maxRecDepth 100000 in
set_option maxHeartbeats 40000000 in
theorem lc_7 {L : Nat} {xs : Nat → Int} {G : GT} (hG : Clo MCL 130 (some (L, xs)) QL G) {i : Int} (hi : 0 ≤ i ∧ i + 7 ≤ (L : Int)) (hL : L ≤ 3584) {Z : ZT} (hZ : LI Z) (hR : RLX Z) (hE : ∀ Z1, LI Z1 → RLX Z1 → G 1299 [(0, vr 0), (1, vr 1), (2, vr 100), (3, vi i)] [] (130, Z1, R0)) : G 381 [(0, vr 0), (1, vr 1), (2, vr 100), (3, vi i)] [] (130, Z, R0) := by
  obtain ⟨h_dm, -⟩ := hR
  have o_dm := h_dm
  have hCI := hZ.1
  refine wp_run hG [1299] 200 _ _ _ _ ?_
  repeat' (first
    | with_reducible rfl
    | refine And.intro ?_ ?_
    | (intro (r : Option PV) σ' hq
       first
       | (obtain ⟨rfl, rfl⟩ := hq)
       | (obtain ⟨rfl, x, rfl, hp⟩ := hq; (try replace hp : _ ∧ _ := hp); (try dsimp only at hp))
       | (obtain ⟨Z', x, rfl, rfl, hI2, hk2, hp⟩ := hq; (try replace hp : _ ∧ _ := hp); (try dsimp only at hp); (first | have hk3 := kp_of hk2 | have hk3 := hk2); (first | have hZ := LI_av hZ hI2 hk3 (by rfl) | skip); (first | have h_dm := RC_dm_av hk3 (by rfl) h_dm | skip))
       | (obtain ⟨Z', x, rfl, rfl, hI2, hk2⟩ := hq; (first | have hk3 := kp_of hk2 | have hk3 := hk2); (first | have hZ := LI_av hZ hI2 hk3 (by rfl) | skip); (first | have h_dm := RC_dm_av hk3 (by rfl) h_dm | skip))
       | (rcases hq with ⟨Z', rfl, rfl, hI2, hk2⟩ | ⟨Z', rfl, rfl, hI2, hk2⟩ <;> ((first | have hk3 := kp_of hk2 | have hk3 := hk2); (first | have hZ := LI_av hZ hI2 hk3 (by rfl) | skip); (first | have h_dm := RC_dm_av hk3 (by rfl) h_dm | skip)))
       | (obtain ⟨Z', rfl, rfl, hI2, hk2, hp⟩ := hq; (first | have hk3 := kp_of hk2 | have hk3 := hk2); (first | have hZ := LI_av hZ hI2 hk3 (by rfl) | skip); (first | have h_dm := RC_dm_av hk3 (by rfl) h_dm | skip))
       | (obtain ⟨Z', rfl, rfl, hI2, hk2⟩ := hq; (first | have hk3 := kp_of hk2 | have hk3 := hk2); (first | have hZ := LI_av hZ hI2 hk3 (by rfl) | skip); (first | have h_dm := RC_dm_av hk3 (by rfl) h_dm | skip)))
    | (intro hc; (try simp only [cmp3_c] at hc); simp only [cmpI] at hc))
  all_goals first
    | with_reducible rfl
    | ((with_reducible show recvG _ _); rfl)
    | with_reducible exact trivial
    | ((with_reducible show CI _); exact hZ.1)
    | ((with_reducible show E1 _); exact hZ.2.1)
    | ((with_reducible show EB _); exact hZ.2.2.1)
    | ((with_reducible show KB _); exact hZ.2.2.2.1)
    | ((with_reducible show KE _); exact hZ.2.2.2.2)
    | (refine hG.2 1299 _ [(0, vr 0), (1, vr 1), (2, vr 100), (3, vi i)] _ _ rfl ?_; exact hE _ hZ ⟨(by assumption), trivial⟩)
    | decide
    | (refine (sx hi hL (k := 0) (by decide) ?_).1; simp (disch := omega) only [w32_id]; omega)
    | (with_reducible refine (sx hi hL ?_ rfl).1; decide)
    | (with_reducible refine (sx hi hL ?_ rfl).2; decide)
    | omega
    | (dsimp only; omega)
    | (exfalso; omega)
    | rfl
    | skip

set_option maxRecDepth 100000 in
set_option maxHeartbeats 40000000 in
theorem lc_8 {L : Nat} {xs : Nat → Int} {G : GT} (hG : Clo MCL 130 (some (L, xs)) QL G) {i : Int} (hi : 0 ≤ i ∧ i + 7 ≤ (L : Int)) (hL : L ≤ 3584) {Z : ZT} (hZ : LI Z) (hR : RLX Z) (hE : ∀ Z1, LI Z1 → RLX Z1 → G 1299 [(0, vr 0), (1, vr 1), (2, vr 100), (3, vi i)] [] (130, Z1, R0)) : G 414 [(0, vr 0), (1, vr 1), (2, vr 100), (3, vi i)] [] (130, Z, R0) := by
  obtain ⟨h_dm, -⟩ := hR
  have o_dm := h_dm
  have hCI := hZ.1
  refine wp_run hG [1299] 200 _ _ _ _ ?_
  repeat' (first
    | with_reducible rfl
    | refine And.intro ?_ ?_
    | (intro (r : Option PV) σ' hq
       first
       | (obtain ⟨rfl, rfl⟩ := hq)
       | (obtain ⟨rfl, x, rfl, hp⟩ := hq; (try replace hp : _ ∧ _ := hp); (try dsimp only at hp))
       | (obtain ⟨Z', x, rfl, rfl, hI2, hk2, hp⟩ := hq; (try replace hp : _ ∧ _ := hp); (try dsimp only at hp); (first | have hk3 := kp_of hk2 | have hk3 := hk2); (first | have hZ := LI_av hZ hI2 hk3 (by rfl) | skip); (first | have h_dm := RC_dm_av hk3 (by rfl) h_dm | skip))
       | (obtain ⟨Z', x, rfl, rfl, hI2, hk2⟩ := hq; (first | have hk3 := kp_of hk2 | have hk3 := hk2); (first | have hZ := LI_av hZ hI2 hk3 (by rfl) | skip); (first | have h_dm := RC_dm_av hk3 (by rfl) h_dm | skip))
       | (rcases hq with ⟨Z', rfl, rfl, hI2, hk2⟩ | ⟨Z', rfl, rfl, hI2, hk2⟩ <;> ((first | have hk3 := kp_of hk2 | have hk3 := hk2); (first | have hZ := LI_av hZ hI2 hk3 (by rfl) | skip); (first | have h_dm := RC_dm_av hk3 (by rfl) h_dm | skip)))
       | (obtain ⟨Z', rfl, rfl, hI2, hk2, hp⟩ := hq; (first | have hk3 := kp_of hk2 | have hk3 := hk2); (first | have hZ := LI_av hZ hI2 hk3 (by rfl) | skip); (first | have h_dm := RC_dm_av hk3 (by rfl) h_dm | skip))
       | (obtain ⟨Z', rfl, rfl, hI2, hk2⟩ := hq; (first | have hk3 := kp_of hk2 | have hk3 := hk2); (first | have hZ := LI_av hZ hI2 hk3 (by rfl) | skip); (first | have h_dm := RC_dm_av hk3 (by rfl) h_dm | skip)))
    | (intro hc; (try simp only [cmp3_c] at hc); simp only [cmpI] at hc))
  all_goals first
    | with_reducible rfl
    | ((with_reducible show recvG _ _); rfl)
    | with_reducible exact trivial
    | ((with_reducible show CI _); exact hZ.1)
    | ((with_reducible show E1 _); exact hZ.2.1)
    | ((with_reducible show EB _); exact hZ.2.2.1)
    | ((with_reducible show KB _); exact hZ.2.2.2.1)
    | ((with_reducible show KE _); exact hZ.2.2.2.2)
    | (refine hG.2 1299 _ [(0, vr 0), (1, vr 1), (2, vr 100), (3, vi i)] _ _ rfl ?_; exact hE _ hZ ⟨(by assumption), trivial⟩)
    | decide
    | (refine (sx hi hL (k := 0) (by decide) ?_).1; simp (disch := omega) only [w32_id]; omega)
    | (with_reducible refine (sx hi hL ?_ rfl).1; decide)
    | (with_reducible refine (sx hi hL ?_ rfl).2; decide)
    | omega
    | (dsimp only; omega)
    | (exfalso; omega)
    | rfl
    | skip
