/-! ===== the model's reader, exactly: a line ===== -/
def TMM (b : Int → Int) (Z : ZT) (u p0 v : Int) : Prop := ∀ j : Nat, (j : Int) < v → Z 109 (80 + u.toNat + j) = tmF b (tp b p0 j) ∧ Z 110 (80 + u.toNat + j) = mN (tmN b (tp b p0 j)) ∧ Z 111 (80 + u.toNat + j) = mN (tmM b (tp b p0 j))
def KPM (Z Z' : ZT) (u : Int) : Prop := ∀ t : Nat, (t : Int) < u → Z' 109 (80 + t) = Z 109 (80 + t) ∧ Z' 110 (80 + t) = Z 110 (80 + t) ∧ Z' 111 (80 + t) = Z 111 (80 + t)
/-- a line under way: its letter; its terms -/
def MLH (b pl : Int → Int) (Z Z1 : ZT) (p v1 : Int) : Prop := ((97 ≤ b p ∧ b p ≤ 100) ∧ pl (b p - 97) < 0) ∧ v1 = b p - 97 ∧ b (p + 1) = 61 ∧ Z1 100 8 = Z 100 8 ∧ Z1 103 = Z 103 ∧ Z1 104 = Z 104 ∧ Z1 105 = Z 105 ∧ Z1 106 = Z 106 ∧ Z1 107 = Z 107 ∧ Z1 108 = Z 108
theorem MLH_e {b pl : Int → Int} {Z Z1 Z' : ZT} {p v1 : Int} (h : MLH b pl Z Z1 p v1) (e0 : Z' 100 8 = Z1 100 8) (e : ∀ o, 103 ≤ o → o ≤ 108 → Z' o = Z1 o) : MLH b pl Z Z' p v1 := by
  obtain ⟨h1, h2, h3, h4, h5, h6, h7, h8, h9, h10⟩ := h
  exact ⟨h1, h2, h3, e0.trans h4, (e _ (by decide) (by decide)).trans h5, (e _ (by decide) (by decide)).trans h6, (e _ (by decide) (by decide)).trans h7, (e _ (by decide) (by decide)).trans h8, (e _ (by decide) (by decide)).trans h9, (e _ (by decide) (by decide)).trans h10⟩
theorem MLH_kp {S : List Nat} {b pl : Int → Int} {Z Z1 Z' : ZT} {p v1 : Int} (hk : kp S Z1 Z') (hS : (!(S.elem 100) && (!(S.elem 9100) && S.all (fun e => Nat.blt (e % 1000) 103 || Nat.blt 108 (e % 1000)))) = true) (h : MLH b pl Z Z1 p v1) : MLH b pl Z Z' p v1 := by
  rw [Bool.and_eq_true, Bool.and_eq_true] at hS
  obtain ⟨a1, a2, a3⟩ := hS
  exact MLH_e h (hk 100 8 (by decide) (by simpa using a1) (by simpa using a2)) (kp_out (lo := 103) (hi := 108) hk a3 (by decide))
theorem MLH_up {b pl : Int → Int} {Z Z1 Z' : ZT} {p v1 a : Int} {o k : Nat} (hu : Z' = upZ Z1 o k a) (h8 : o = 100 → k ≠ 8) (ho : o < 103 ∨ 108 < o) (h : MLH b pl Z Z1 p v1) : MLH b pl Z Z' p v1 := by
  refine MLH_e h ?_ (fun q h1 h2 => up_o hu (by omega))
  rw [hu]
  exact if_neg (fun z => h8 z.1.symm z.2.symm)
def MLV (b : Int → Int) (Z Z1 : ZT) (p v : Int) : Prop := Z1 100 34 = Z 100 34 + v ∧ TMM b Z1 (Z 100 34) (p + 2) v ∧ KPM Z Z1 (Z 100 34)
theorem MLV_r {b : Int → Int} {Z : ZT} {p v : Int} (hv : v = 0) : MLV b Z Z p v := ⟨by omega, fun j hj => by omega, fun _ _ => ⟨rfl, rfl, rfl⟩⟩
theorem MLV_e {b : Int → Int} {Z Z1 Z' : ZT} {p v : Int} (h : MLV b Z Z1 p v) (e1 : Z' 100 34 = Z1 100 34) (e15 : Z' 109 = Z1 109) (e16 : Z' 110 = Z1 110) (e17 : Z' 111 = Z1 111) : MLV b Z Z' p v := by
  obtain ⟨h1, h2, h3⟩ := h
  refine ⟨e1.trans h1, fun j hj => ?_, fun t ht => ?_⟩
  · rw [e15, e16, e17]
    exact h2 j hj
  · rw [e15, e16, e17]
    exact h3 t ht
theorem MLV_kp {S : List Nat} {b : Int → Int} {Z Z1 Z' : ZT} {p v : Int} (hk : kp S Z1 Z') (hS : (!(S.elem 100) && (!(S.elem 35100) && (avo S 109 && (avo S 110 && avo S 111)))) = true) (h : MLV b Z Z1 p v) : MLV b Z Z' p v := by
  simp only [Bool.and_eq_true] at hS
  obtain ⟨a1, a2, a3, a4, a5⟩ := hS
  exact MLV_e h (hk 100 34 (by decide) (by simpa using a1) (by simpa using a2)) (kp_av hk a3 (by decide)) (kp_av hk a4 (by decide)) (kp_av hk a5 (by decide))
theorem MLV_up {b : Int → Int} {Z Z1 Z' : ZT} {p v a : Int} {o k : Nat} (hu : Z' = upZ Z1 o k a) (h8 : o = 100 → k ≠ 34) (ho : o < 109 ∨ 111 < o) (h : MLV b Z Z1 p v) : MLV b Z Z' p v := by
  refine MLV_e h ?_ (up_o hu (by omega)) (up_o hu (by omega)) (up_o hu (by omega))
  rw [hu]
  exact if_neg (fun z => h8 z.1.symm z.2.symm)
/-- the terms under way; the fault found -/
def MS1 (b pl : Int → Int) (Z Z1 : ZT) (p : Int) : Prop := Z1 100 33 = Z 100 33 ∧ ∃ v : Int, MLV b Z Z1 p v ∧ TSI b pl (p + 2) (Z1 100 32) v ∧ 1 ≤ v ∧ p + 2 * v + 1 ≤ Z1 100 32
def MFL (b pl : Int → Int) (Z1 : ZT) (p : Int) : Prop := 0 ≤ Z1 100 33 ∧ lnB b pl p = Z1 100 33
theorem MFL_e {b pl : Int → Int} {Z1 Z' : ZT} {p : Int} (h : MFL b pl Z1 p) (e : Z' 100 33 = Z1 100 33) : MFL b pl Z' p := by
  unfold MFL at h ⊢
  rw [e]
  exact h
theorem ML_step {b pl : Int → Int} {Z Zp Z' : ZT} {p h v : Int} (hH1 : (97 ≤ b p ∧ b p ≤ 100) ∧ pl (b p - 97) < 0) (hH2 : b (p + 1) = 61) (g : MLV b Z Zp p v) (gT : TSI b pl (p + 2) h v) (hh : Zp 100 32 = h) (hs : v = 0 ∨ b h = 43 ∨ b h = 45) (hq : v = 0 ∧ h = p + 2 ∨ 1 ≤ v ∧ p + 2 * v + 1 ≤ h) (ht : TMO b pl Zp Z' h (Zp 100 34)) (h34 : Z' 100 34 = Zp 100 34 + 1) (hU : 0 ≤ Z 100 34) (hv : 0 ≤ v ∧ v ≤ 90) (hw : Zp 100 33 = Z 100 33) (hw0 : Z 100 33 < 0) : MS1 b pl Z Z' p ∨ MFL b pl Z' p := by
  rcases ht with ⟨t33, hb, t3, t15, t16, t17⟩ | ⟨hw1, hw2⟩
  · obtain ⟨g1, g2, g3⟩ := g
    have hh2 : h = tp b (p + 2) v.toNat := by
      obtain ⟨n, -, -, -, e⟩ := gT
      exact e
    rw [g1] at t15 t16 t17 h34
    have hge := tmE_ge b h
    refine Or.inl ⟨t33.trans hw, v + 1, ⟨by omega, fun j hj => ?_, fun t ht => ?_⟩, TSI_s gT hs hb (by omega) t3 rfl, by omega, ?_⟩
    · rw [t15, t16, t17]
      by_cases hz : (j : Int) = v
      · have q : 80 + (Z 100 34).toNat + j = (80 + (Z 100 34 + v)).toNat := by omega
        have q2 : v.toNat = j := by omega
        rw [q, up_eq, up_eq, up_eq, hh2, q2]
        exact ⟨rfl, rfl, rfl⟩
      · rw [up_nk (by omega), up_nk (by omega), up_nk (by omega)]
        exact g2 j (by omega)
    · rw [t15, t16, t17, up_nk (by omega), up_nk (by omega), up_nk (by omega)]
      exact g3 t ht
    · rcases hq with ⟨q1, q2⟩ | ⟨q1, q2⟩
      · have := hge.1
        omega
      · have := hge.2 (by omega)
        omega
  · have hn : tmB b pl h ≠ -1 := by omega
    have g0 := TSI_b gT hs (by omega) hn
    have g := ln_b2 hH1 hH2 g0 hn
    exact Or.inr ⟨hw1, by rw [g]; exact hw2.symm⟩
/-- a line's worth in the model -/
def LMW (b pl : Int → Int) (Z Z' : ZT) (p : Int) : Prop := Z' 100 8 = Z 100 8 + 1 ∧ Z' 100 34 = Z 100 34 + (lnT b pl p).2.2 ∧ Z' 103 = upZ Z 103 (4 + Z 100 8).toNat (b p - 97) 103 ∧ Z' 104 = upZ Z 104 (4 + (b p - 97)).toNat (Z 100 8) 104 ∧ Z' 105 = upZ Z 105 (4 + (b p - 97)).toNat (Z 100 34) 105 ∧ Z' 106 = upZ Z 106 (4 + (b p - 97)).toNat (lnT b pl p).2.2 106 ∧ Z' 107 = upZ Z 107 (4 + (b p - 97)).toNat (lnD b (lnT b pl p).2.1) 107 ∧ Z' 108 = upZ Z 108 (4 + (b p - 97)).toNat (lnN b (lnT b pl p).2.1) 108 ∧ TMM b Z' (Z 100 34) (p + 2) (lnT b pl p).2.2 ∧ KPM Z Z' (Z 100 34) ∧ 0 ≤ (lnT b pl p).2.2
theorem LL_fin {Z Z' : ZT} {v1 : Int} (h : LL Z) (h1 : 0 ≤ v1 ∧ v1 ≤ 3) (h8 : 0 ≤ Z 100 8) (e8 : Z' 100 8 = Z 100 8 + 1) (e3 : Z' 103 = upZ Z 103 (4 + Z 100 8).toNat v1 103) (e4 : Z' 104 = upZ Z 104 (4 + v1).toNat (Z 100 8) 104) : LL Z' := by
  intro l l0 l3
  have hp : plM Z' l = if l = v1 then Z 100 8 else plM Z l := by
    have hc : 0 ≤ l ∧ l ≤ 3 := ⟨l0, l3⟩
    have u1 : plM Z' l = if 0 ≤ Z' 104 (4 + l.toNat) then Z' 104 (4 + l.toNat) else -1 := if_pos hc
    have u2 : plM Z l = if 0 ≤ Z 104 (4 + l.toNat) then Z 104 (4 + l.toNat) else -1 := if_pos hc
    rw [u1, e4]
    by_cases hq : l = v1
    · rw [if_pos hq, show 4 + l.toNat = (4 + v1).toNat by omega, up_eq, if_pos h8]
    · rw [if_neg hq, u2, up_nk (by omega)]
  rw [hp, e8, e3]
  by_cases hq : l = v1
  · rw [if_pos hq]
    refine ⟨fun _ => ⟨(Z 100 8).toNat, by omega, ?_⟩, fun _ => h8⟩
    rw [show 4 + (Z 100 8).toNat = (4 + Z 100 8).toNat by omega, up_eq]
    exact hq.symm
  · rw [if_neg hq]
    refine ⟨fun g => ?_, fun g => ?_⟩
    · obtain ⟨k, k1, k2⟩ := (h l l0 l3).mp g
      exact ⟨k, by omega, by rw [up_nk (by omega)]; exact k2⟩
    · obtain ⟨k, k1, k2⟩ := g
      refine (h l l0 l3).mpr ⟨k, ?_, ?_⟩
      · by_cases hk : k = (Z 100 8).toNat
        · rw [show 4 + k = (4 + Z 100 8).toNat by omega, up_eq] at k2
          exact absurd k2.symm hq
        · omega
      · by_cases hk : k = (Z 100 8).toNat
        · rw [show 4 + k = (4 + Z 100 8).toNat by omega, up_eq] at k2
          exact absurd k2.symm hq
        · rw [up_nk (by omega)] at k2
          exact k2
/-- behind a line's terms: divisor (v4), nearest (v5), the end -/
def MS2 (b pl : Int → Int) (Z Z1 : ZT) (p : Int) : Prop := Z1 100 33 = Z 100 33 ∧ ∃ v : Int, MLV b Z Z1 p v ∧ lnT b pl p = (-1, Z1 100 32, v) ∧ 1 ≤ v ∧ p + 2 * v + 1 ≤ Z1 100 32
def MS3 (b pl : Int → Int) (Z Z1 : ZT) (p d : Int) : Prop := Z1 100 33 = Z 100 33 ∧ ∃ v e : Int, MLV b Z Z1 p v ∧ lnT b pl p = (-1, e, v) ∧ 1 ≤ v ∧ p + 2 * v + 1 ≤ Z1 100 32 ∧ lnHd b e (Z1 100 32) d ∧ 1 ≤ d ∧ d ≤ 1000
def MS4 (b pl : Int → Int) (Z Z1 : ZT) (p d n : Int) : Prop := Z1 100 33 = Z 100 33 ∧ ∃ v e q : Int, MLV b Z Z1 p v ∧ lnT b pl p = (-1, e, v) ∧ 1 ≤ v ∧ p + 2 * v + 1 ≤ Z1 100 32 ∧ lnHd b e q d ∧ (1 ≤ d ∧ d ≤ 1000) ∧ (lnR b e = Z1 100 32 ∧ lnN b e = n)
def MS5 (b pl : Int → Int) (Z Z1 : ZT) (p d n : Int) : Prop := MS4 b pl Z Z1 p d n ∧ b (Z1 100 32) = 59
theorem MS_2 {b pl : Int → Int} {Z Z1 : ZT} {p : Int} (h : MS1 b pl Z Z1 p) (hs : ¬(b (Z1 100 32) = 43 ∨ b (Z1 100 32) = 45)) : MS2 b pl Z Z1 p := by
  obtain ⟨h1, v, h2, h3, h4, h5⟩ := h
  exact ⟨h1, v, h2, TSI_x h3 h4 hs, h4, h5⟩
theorem MS_3 {b pl : Int → Int} {Z Z1 : ZT} {p d : Int} (h : MS2 b pl Z Z1 p) (hn : b (Z1 100 32) ≠ 47) (hd : d = 1) : MS3 b pl Z Z1 p d := by
  obtain ⟨h1, v, h2, h3, h4, h5⟩ := h
  subst hd
  exact ⟨h1, v, _, h2, h3, h4, h5, Or.inr ⟨hn, rfl, rfl⟩, by decide, by decide⟩
theorem MS_3n {b pl : Int → Int} {Z Z1 Zq Z' : ZT} {p L x w0 : Int} (h : MS2 b pl Z Z1 p) (hH : MLH b pl Z Zq p L) (hs : b (Z1 100 32) = 47) (e34 : Z' 100 34 = Z1 100 34) (e109 : Z' 109 = Z1 109) (e110 : Z' 110 = Z1 110) (e111 : Z' 111 = Z1 111) (hw0 : w0 = Z1 100 33) (hn : Z' 100 32 = nuE b (Z1 100 32 + 1) ∧ (nuOK b (Z1 100 32 + 1) 1000 ∧ x = nuV b (Z1 100 32 + 1) ∧ Z' 100 33 = w0 ∨ ¬(48 ≤ b (Z1 100 32 + 1) ∧ b (Z1 100 32 + 1) ≤ 57) ∧ x = 0 ∧ Z' 100 33 = w0 ∨ (48 ≤ b (Z1 100 32 + 1) ∧ b (Z1 100 32 + 1) ≤ 57) ∧ ¬nuOK b (Z1 100 32 + 1) 1000 ∧ (w0 < 0 ∧ Z' 100 33 = Z1 100 32 + 1 ∨ 0 ≤ w0 ∧ Z' 100 33 = w0))) (hx : Z' 100 33 < 0 → x ≤ 1000 ∧ (Z' 100 32 = Z1 100 32 + 1 ∨ 1 ≤ x)) (hw : Z1 100 33 < 0) (h0 : 0 ≤ Z1 100 32) : Z' 100 32 ≠ Z1 100 32 + 1 ∧ (MS3 b pl Z Z' p x ∨ MFL b pl Z' p) ∨ Z' 100 32 = Z1 100 32 + 1 ∧ lnB b pl p = Z1 100 32 + 1 ∧ Z' 100 33 = Z1 100 33 := by
  subst hw0
  obtain ⟨h1, v, h2, h3, h4, h5⟩ := h
  obtain ⟨hz, hn⟩ := hn
  rcases hn with ⟨n1, n2, n3⟩ | ⟨n1, n2, n3⟩ | ⟨n1, n2, n3⟩
  · have g := nuE_gt n1.1
    have g2 := hx (by omega)
    exact Or.inl ⟨by omega, Or.inl ⟨by omega, v, _, MLV_e h2 e34 e109 e110 e111, h3, h4, by omega, Or.inl ⟨hs, n1, hz, n2⟩, by omega, by omega⟩⟩
  · have g := nuE_no n1
    exact Or.inr ⟨by omega, ln_b3 hH.1 hH.2.2.1 h3 hs (fun o => n1 o.1), n3⟩
  · have g := nuE_gt n1
    exact Or.inl ⟨by omega, Or.inr ⟨by omega, by rw [ln_b3 hH.1 hH.2.2.1 h3 hs n2]; omega⟩⟩
theorem MS_4 {b pl : Int → Int} {Z Z1 Z' : ZT} {p d n : Int} (h : MS3 b pl Z Z1 p d) (e33 : Z' 100 33 = Z1 100 33) (e34 : Z' 100 34 = Z1 100 34) (e109 : Z' 109 = Z1 109) (e110 : Z' 110 = Z1 110) (e111 : Z' 111 = Z1 111) (hx : n = 1 ∧ b (Z1 100 32) = 126 ∧ Z' 100 32 = Z1 100 32 + 1 ∨ n = 0 ∧ b (Z1 100 32) ≠ 126 ∧ Z' 100 32 = Z1 100 32) : MS4 b pl Z Z' p d n := by
  obtain ⟨h1, v, e, h2, h3, h4, h5, h6, h7, h8⟩ := h
  exact ⟨by omega, v, e, _, MLV_e h2 e34 e109 e110 e111, h3, h4, by omega, h6, ⟨h7, h8⟩, ln_nr h6 hx⟩
theorem MS_b4 {b pl : Int → Int} {Z Z1 Zq : ZT} {p d n L : Int} (h : MS4 b pl Z Z1 p d n) (hH : MLH b pl Z Zq p L) (hs : b (Z1 100 32) ≠ 59) : lnB b pl p = Z1 100 32 := by
  obtain ⟨h1, v, e, q, h2, h3, h4, h5, h6, h7, h8⟩ := h
  exact ln_b4 hH.1 hH.2.2.1 h3 (ln_hd h6).2.2 h8.1 hs
theorem MS_end {b pl : Int → Int} {Z Z1 Zq Z' : ZT} {p d n L : Int} (h : MS5 b pl Z Z1 p d n) (hH : MLH b pl Z Zq p L) (hL : LL Z) (h8 : 0 ≤ Z 100 8) (e8 : Z' 100 8 = Z 100 8 + 1) (e34 : Z' 100 34 = Z1 100 34) (e109 : Z' 109 = Z1 109) (e110 : Z' 110 = Z1 110) (e111 : Z' 111 = Z1 111) (e32 : Z' 100 32 = Z1 100 32 + 1) (e33 : Z' 100 33 = Z1 100 33) (e3 : Z' 103 = upZ Z 103 (4 + Z 100 8).toNat L 103) (e4 : Z' 104 = upZ Z 104 (4 + L).toNat (Z 100 8) 104) (e5 : Z' 105 = upZ Z 105 (4 + L).toNat (Z 100 34) 105) (e6 : Z' 106 = upZ Z 106 (4 + L).toNat (Z1 100 34 - Z 100 34) 106) (e7 : Z' 107 = upZ Z 107 (4 + L).toNat d 107) (e9 : Z' 108 = upZ Z 108 (4 + L).toNat n 108) : Z' 100 33 = Z 100 33 ∧ lnB b pl p = -1 ∧ Z' 100 32 = lnE b pl p ∧ LMW b pl Z Z' p ∧ LL Z' := by
  obtain ⟨⟨h1, v, e, q, h2, h3, h4, h5, h6, h7, h88⟩, h59⟩ := h
  obtain ⟨l1, l2, l3, -⟩ := hH
  have hok := ln_ok l1 l3 h3 (ln_hd h6).2.2 h88.1 h59
  have hv : Z1 100 34 - Z 100 34 = v := by
    have := h2.1
    omega
  have h2' := MLV_e h2 e34 e109 e110 e111
  have hl2 : 0 ≤ L ∧ L ≤ 3 := by omega
  refine ⟨by omega, hok.1, by rw [hok.2]; exact e32, ?_, LL_fin hL hl2 h8 e8 e3 e4⟩
  subst l2
  unfold LMW
  rw [h3]
  exact ⟨e8, h2'.1, e3, e4, e5, by rw [← hv]; exact e6, by rw [(ln_hd h6).2.1]; exact e7, by rw [h88.2]; exact e9, h2'.2.1, h2'.2.2, (show 0 ≤ v by omega)⟩
theorem MS4_e {b pl : Int → Int} {Z Z1 Z' : ZT} {p d n : Int} (h : MS4 b pl Z Z1 p d n) (e32 : Z' 100 32 = Z1 100 32) (e33 : Z' 100 33 = Z1 100 33) (e34 : Z' 100 34 = Z1 100 34) (e109 : Z' 109 = Z1 109) (e110 : Z' 110 = Z1 110) (e111 : Z' 111 = Z1 111) : MS4 b pl Z Z' p d n := by
  obtain ⟨h1, v, e, q, h2, h3, h4, h5, h6, h7, h8⟩ := h
  exact ⟨by omega, v, e, q, MLV_e h2 e34 e109 e110 e111, h3, h4, by omega, h6, h7, by rw [e32]; exact h8⟩
theorem num_at {b b' : Int → Int} {k z x w w0 m : Int} (hb : b' = b) (h1 : z = nuE b' k) (h2 : nuOK b' k m ∧ x = nuV b' k ∧ w = w0 ∨ ¬(48 ≤ b' k ∧ b' k ≤ 57) ∧ x = 0 ∧ w = w0 ∨ (48 ≤ b' k ∧ b' k ≤ 57) ∧ ¬nuOK b' k m ∧ (w0 < 0 ∧ w = k ∨ 0 ≤ w0 ∧ w = w0)) : ∀ q, q = k → z = nuE b q ∧ (nuOK b q m ∧ x = nuV b q ∧ w = w0 ∨ ¬(48 ≤ b q ∧ b q ≤ 57) ∧ x = 0 ∧ w = w0 ∨ (48 ≤ b q ∧ b q ≤ 57) ∧ ¬nuOK b q m ∧ (w0 < 0 ∧ w = q ∨ 0 ≤ w0 ∧ w = w0)) := by
  rintro q rfl
  rw [← hb]
  exact ⟨h1, h2⟩
theorem MLH_mk {Z Zc : ZT} {p v1 : Int} (hL : LL Z) (hv : v1 = mB Z p - 97) (h03 : 0 ≤ v1 ∧ v1 ≤ 3) (hn : ∀ k : Nat, (k : Int) < Z 100 8 → Z 103 (4 + k) ≠ v1) (h61 : mB Z (p + 1) = 61) (e : Zc 100 8 = Z 100 8) (e3 : Zc 103 = Z 103) (e4 : Zc 104 = Z 104) (e5 : Zc 105 = Z 105) (e6 : Zc 106 = Z 106) (e7 : Zc 107 = Z 107) (e8 : Zc 108 = Z 108) : MLH (mB Z) (plM Z) Z Zc p v1 := by
  have hp := pm_neg hL h03.1 h03.2 hn
  rw [hv] at hp
  exact ⟨⟨by omega, hp⟩, hv, h61, e, e3, e4, e5, e6, e7, e8⟩
theorem MLH_nq {Z Zc : ZT} {p v1 : Int} (h : MLH (mB Z) (plM Z) Z Zc p v1) (hL : LL Z) : ∀ k : Nat, (k : Int) < Z 100 8 → Z 103 (4 + k) ≠ v1 := by
  intro k hk e
  have q := (hL v1 (by have := h.1.1; have := h.2.1; omega) (by have := h.1.1; have := h.2.1; omega)).mpr ⟨k, hk, e⟩
  have q2 := h.1.2
  rw [← h.2.1] at q2
  omega
theorem MS1_o {b pl : Int → Int} {Z Z1 : ZT} {p : Int} (h : MS1 b pl Z Z1 p ∨ MFL b pl Z1 p) (h2 : 2 * Z 100 34 ≤ p) : 0 ≤ Z1 100 33 ∨ 2 * Z1 100 34 + 1 ≤ Z1 100 32 := by
  rcases h with h | h
  · obtain ⟨-, v, g, -, g1, g2⟩ := h
    have := g.1
    exact Or.inr (by omega)
  · exact Or.inl h.1
theorem MS_3f {b pl : Int → Int} {Z Z1 Zq : ZT} {p L z : Int} (h : MS2 b pl Z Z1 p) (hH : MLH b pl Z Zq p L) (hs : b (Z1 100 32) = 47) (hz : z = nuE b (Z1 100 32 + 1)) (he : z = Z1 100 32 + 1) : lnB b pl p = Z1 100 32 + 1 := by
  obtain ⟨h1, v, h2, h3, h4, h5⟩ := h
  refine ln_b3 hH.1 hH.2.2.1 h3 hs (fun o => ?_)
  have := nuE_gt o.1
  omega
theorem MS5_o {b pl : Int → Int} {Z Z1 : ZT} {p d n : Int} (h : MS5 b pl Z Z1 p d n ∨ MFL b pl Z1 p) (h2 : 2 * Z 100 34 ≤ p) : 0 ≤ Z1 100 33 ∨ (2 * Z1 100 34 + 1 ≤ Z1 100 32 ∧ p + 1 ≤ Z1 100 32 ∧ 1 ≤ d ∧ d ≤ 1000 ∧ Z 100 34 ≤ Z1 100 34) := by
  rcases h with h | h
  · obtain ⟨⟨h1, v, e, q, g, h3, h4, h5, h6, h7, h8⟩, -⟩ := h
    have := g.1
    exact Or.inr (by omega)
  · exact Or.inl h.1
