/-! ===== the reader, exactly: a line ===== -/
/-- a letter without a line has no divisor yet -/
def UL (Z : ZT) : Prop := ∀ l : Nat, l < 4 → Z 10 l < 0 → Z 13 l = 1
theorem ln_b0 {b pl : Int → Int} {p : Int} (h : ¬((97 ≤ b p ∧ b p ≤ 100) ∧ pl (b p - 97) < 0)) : lnB b pl p = p := by
  unfold lnB
  rw [if_pos h]
theorem ln_b1 {b pl : Int → Int} {p : Int} (h : (97 ≤ b p ∧ b p ≤ 100) ∧ pl (b p - 97) < 0) (h1 : b (p + 1) ≠ 61) : lnB b pl p = p + 1 := by
  unfold lnB
  rw [if_neg (fun g => g h), if_pos h1]
theorem ln_b2 {b pl : Int → Int} {p t : Int} (h : (97 ≤ b p ∧ b p ≤ 100) ∧ pl (b p - 97) < 0) (h1 : b (p + 1) = 61) (h2 : (lnT b pl p).1 = t) (ht : t ≠ -1) : lnB b pl p = t := by
  unfold lnB
  rw [if_neg (fun g => g h), if_neg (fun g => g h1), if_pos (by rw [h2]; exact ht), h2]
theorem ln_b3 {b pl : Int → Int} {p e v : Int} (h : (97 ≤ b p ∧ b p ≤ 100) ∧ pl (b p - 97) < 0) (h1 : b (p + 1) = 61) (h2 : lnT b pl p = (-1, e, v)) (h3 : b e = 47) (h4 : ¬nuOK b (e + 1) 1000) : lnB b pl p = e + 1 := by
  unfold lnB
  rw [if_neg (fun g => g h), if_neg (fun g => g h1), h2, if_neg (fun g => g rfl), if_pos ⟨h3, h4⟩]
theorem ln_b4 {b pl : Int → Int} {p e v r : Int} (h : (97 ≤ b p ∧ b p ≤ 100) ∧ pl (b p - 97) < 0) (h1 : b (p + 1) = 61) (h2 : lnT b pl p = (-1, e, v)) (h3 : ¬(b e = 47 ∧ ¬nuOK b (e + 1) 1000)) (hr : lnR b e = r) (h4 : b r ≠ 59) : lnB b pl p = r := by
  unfold lnB
  rw [if_neg (fun g => g h), if_neg (fun g => g h1), h2, if_neg (fun g => g rfl), if_neg h3]
  show (if b (lnR b e) ≠ 59 then lnR b e else -1) = r
  rw [hr, if_pos h4]
theorem ln_ok {b pl : Int → Int} {p e v r : Int} (h : (97 ≤ b p ∧ b p ≤ 100) ∧ pl (b p - 97) < 0) (h1 : b (p + 1) = 61) (h2 : lnT b pl p = (-1, e, v)) (h3 : ¬(b e = 47 ∧ ¬nuOK b (e + 1) 1000)) (hr : lnR b e = r) (h4 : b r = 59) : lnB b pl p = -1 ∧ lnE b pl p = r + 1 := by
  refine ⟨?_, ?_⟩
  · unfold lnB
    rw [if_neg (fun g => g h), if_neg (fun g => g h1), h2, if_neg (fun g => g rfl), if_neg h3]
    show (if b (lnR b e) ≠ 59 then lnR b e else -1) = -1
    rw [hr, if_neg (fun g => g h4)]
  · unfold lnE
    rw [h2]
    show lnR b e + 1 = r + 1
    rw [hr]
/-- behind the terms: divisor and nearest -/
def lnHd (b : Int → Int) (e q d : Int) : Prop := b e = 47 ∧ nuOK b (e + 1) 1000 ∧ q = nuE b (e + 1) ∧ d = nuV b (e + 1) ∨ b e ≠ 47 ∧ q = e ∧ d = 1
theorem ln_hd {b : Int → Int} {e q d : Int} (h : lnHd b e q d) : lnQ b e = q ∧ lnD b e = d ∧ ¬(b e = 47 ∧ ¬nuOK b (e + 1) 1000) := by
  unfold lnQ lnD
  rcases h with ⟨h1, h2, rfl, rfl⟩ | ⟨h1, rfl, rfl⟩
  · rw [if_pos h1, if_pos h1]
    exact ⟨rfl, rfl, fun g => g.2 h2⟩
  · rw [if_neg h1, if_neg h1]
    exact ⟨rfl, rfl, fun g => h1 g.1⟩
theorem ln_nr {b : Int → Int} {e q d x r : Int} (h : lnHd b e q d) (hx : x = 1 ∧ b q = 126 ∧ r = q + 1 ∨ x = 0 ∧ b q ≠ 126 ∧ r = q) : lnR b e = r ∧ lnN b e = x := by
  obtain ⟨e1, -, -⟩ := ln_hd h
  unfold lnR lnN
  rw [e1]
  rcases hx with ⟨rfl, h1, rfl⟩ | ⟨rfl, h1, rfl⟩
  · rw [if_pos h1, if_pos h1]
    exact ⟨rfl, rfl⟩
  · rw [if_neg h1, if_neg h1]
    exact ⟨rfl, rfl⟩
/-- a line's worth: what has been noted of it -/
def LNW (b pl : Int → Int) (Z Z' : ZT) (p : Int) : Prop := Z' 8 0 = Z 8 0 + 1 ∧ Z' 8 1 = Z 8 1 + (lnT b pl p).2.2 ∧ Z' 10 = upZ Z 10 (b p - 97).toNat (Z 8 0) 10 ∧ Z' 11 = upZ Z 11 (b p - 97).toNat (Z 8 1) 11 ∧ Z' 12 = upZ Z 12 (b p - 97).toNat (lnT b pl p).2.2 12 ∧ (∀ l : Nat, l < 4 → Z' 13 l = if l = (b p - 97).toNat then lnD b (lnT b pl p).2.1 else Z 13 l) ∧ Z' 14 = upZ Z 14 (b p - 97).toNat (lnN b (lnT b pl p).2.1) 14 ∧ TMC b Z' (Z 8 1) (p + 2) (lnT b pl p).2.2 ∧ KPT Z Z' (Z 8 1) ∧ 0 ≤ (lnT b pl p).2.2

theorem ORD_o {Z Z' : ZT} {d : Nat} (h : ORD Z d) (e0 : Z' d 0 = Z d 0) (e1 : Z' (d + 1) = Z (d + 1)) (e2 : Z' (d + 2) = Z (d + 2)) : ORD Z' d := by
  unfold ORD at h ⊢
  rw [e0, e1, e2]
  exact h
theorem ln_fin {b pl : Int → Int} {Z Zc Z' : ZT} {p e v q d x r L : Int} (hb : (97 ≤ b p ∧ b p ≤ 100) ∧ pl (b p - 97) < 0) (hL : L = b p - 97) (h2 : lnT b pl p = (-1, e, v)) (hd : lnHd b e q d) (hr : lnR b e = r ∧ lnN b e = x) (hv : 0 ≤ v) (e8 : Z' 8 0 = Z 8 0 + 1) (e81 : Z' 8 1 = Z 8 1 + v) (e10 : Z' 10 = upZ Z 10 L.toNat (Z 8 0) 10) (e11 : Z' 11 = upZ Z 11 L.toNat (Z 8 1) 11) (e12 : Z' 12 = upZ Z 12 L.toNat v 12) (e13 : d = 1 ∧ Z' 13 = Z 13 ∨ Z' 13 = upZ Z 13 L.toNat d 13) (h13 : Z 13 L.toNat = 1) (e14 : Z' 14 = upZ Z 14 L.toNat x 14) (ht : TMC b Z' (Z 8 1) (p + 2) v) (hk : KPT Z Z' (Z 8 1)) : LNW b pl Z Z' p := by
  subst hL
  unfold LNW
  rw [h2]
  refine ⟨e8, e81, e10, e11, e12, fun l hl => ?_, by rw [hr.2]; exact e14, ht, hk, hv⟩
  show Z' 13 l = if l = (b p - 97).toNat then lnD b e else Z 13 l
  rw [(ln_hd hd).2.1]
  by_cases hq : l = (b p - 97).toNat
  · rw [if_pos hq]
    rcases e13 with ⟨rfl, e13⟩ | e13
    · rw [e13, hq, h13]
    · rw [e13, hq, up_eq]
  · rw [if_neg hq]
    rcases e13 with ⟨-, e13⟩ | e13
    · rw [e13]
    · rw [e13, up_nk hq]
theorem UL_fin {b pl : Int → Int} {Z Z' : ZT} {p : Int} (h : UL Z) (hw : LNW b pl Z Z' p) (h0 : 0 ≤ Z 8 0) : UL Z' := by
  obtain ⟨-, -, e10, -, -, e13, -⟩ := hw
  intro l hl hn
  rw [e10] at hn
  rw [e13 l hl]
  by_cases hq : l = (b p - 97).toNat
  · rw [hq, up_eq] at hn
    omega
  · rw [up_nk hq] at hn
    rw [if_neg hq]
    exact h l hl hn
theorem ORD_fin {b pl : Int → Int} {Z Z' : ZT} {p a : Int} {q : Nat} (h : ORD Z 8) (hw : LNW b pl Z Z' p) (hb : 97 ≤ b p ∧ b p ≤ 100) (ha : a = b p - 97) (hp : Z 10 (b p - 97).toNat < 0) (h0 : 0 ≤ Z 8 0) (hq : q < 4) (hqL : Z 9 q = a) (e1 : ∀ t : Nat, t < 3 → Z' 9 t = if t < q then Z 9 t else Z 9 (t + 1)) (e3 : Z' 9 3 = a) : ORD Z' 8 := by
  obtain ⟨e0, -, e10, -⟩ := hw
  have hc : ((b p - 97).toNat : Int) = a := by omega
  exact ORD_close (d := 8) (L := (b p - 97).toNat) h (by omega) hp h0 e0 e10 hq (hqL.trans hc.symm) e1 (e3.trans hc.symm)
/-- a line under way: its letter noted, its start; its terms -/
def LH (b pl : Int → Int) (Z Z1 : ZT) (p v1 : Int) : Prop := ((97 ≤ b p ∧ b p ≤ 100) ∧ pl (b p - 97) < 0) ∧ v1 = b p - 97 ∧ b (p + 1) = 61 ∧ Z1 8 0 = Z 8 0 ∧ Z1 9 = Z 9 ∧ Z1 10 = Z 10 ∧ Z1 11 = upZ Z 11 v1.toNat (Z 8 1) 11 ∧ Z1 12 = Z 12
theorem LH_e {b pl : Int → Int} {Z Z1 Z' : ZT} {p v1 : Int} (h : LH b pl Z Z1 p v1) (e0 : Z' 8 0 = Z1 8 0) (e9 : Z' 9 = Z1 9) (e10 : Z' 10 = Z1 10) (e11 : Z' 11 = Z1 11) (e12 : Z' 12 = Z1 12) : LH b pl Z Z' p v1 := by
  obtain ⟨h1, h2, h3, h4, h5, h6, h7, h8⟩ := h
  exact ⟨h1, h2, h3, e0.trans h4, e9.trans h5, e10.trans h6, e11.trans h7, e12.trans h8⟩
theorem LH_kp {S : List Nat} {b pl : Int → Int} {Z Z1 Z' : ZT} {p v1 : Int} (hk : kp S Z1 Z') (hS : (!(S.elem 8) && (!(S.elem 1008) && (avo S 9 && (avo S 10 && (avo S 11 && avo S 12))))) = true) (h : LH b pl Z Z1 p v1) : LH b pl Z Z' p v1 := by
  simp only [Bool.and_eq_true] at hS
  obtain ⟨a1, a2, a3, a4, a5, a6⟩ := hS
  exact LH_e h (hk 8 0 (by decide) (by simpa using a1) (by simpa using a2)) (kp_av hk a3 (by decide)) (kp_av hk a4 (by decide)) (kp_av hk a5 (by decide)) (kp_av hk a6 (by decide))
theorem LH_up {b pl : Int → Int} {Z Z1 Z' : ZT} {p v1 a : Int} {o k : Nat} (hu : Z' = upZ Z1 o k a) (h8 : o = 8 → k ≠ 0) (h9 : (9 : Nat) ≠ o) (h10 : (10 : Nat) ≠ o) (h11 : (11 : Nat) ≠ o) (h12 : (12 : Nat) ≠ o) (h : LH b pl Z Z1 p v1) : LH b pl Z Z' p v1 := by
  refine LH_e h ?_ (up_o hu h9) (up_o hu h10) (up_o hu h11) (up_o hu h12)
  rw [hu]
  exact if_neg (fun z => h8 z.1.symm z.2.symm)
theorem LH_mk {b pl : Int → Int} {Z Zi Z1 : ZT} {p v1 a : Int} {k : Nat} (hb : (97 ≤ b p ∧ b p ≤ 100) ∧ pl (b p - 97) < 0) (hv : v1 = b p - 97) (h1 : b (p + 1) = 61) (e0 : Z1 8 0 = Z 8 0) (e9 : Z1 9 = Z 9) (e10 : Z1 10 = Z 10) (e12 : Z1 12 = Z 12) (ei : Zi 11 = Z 11) (f : Z1 11 = upZ Zi 11 k a 11) (hk : k = v1.toNat) (ha : a = Z 8 1) : LH b pl Z Z1 p v1 := ⟨hb, hv, h1, e0, e9, e10, f.trans (up_row2 ei hk ha), e12⟩
def LV (b : Int → Int) (Z Z1 : ZT) (p v : Int) : Prop := Z1 8 1 = Z 8 1 + v ∧ TMC b Z1 (Z 8 1) (p + 2) v ∧ KPT Z Z1 (Z 8 1)
theorem LV_r {b : Int → Int} {Z : ZT} {p v : Int} (hv : v = 0) : LV b Z Z p v := ⟨by omega, TMC_0 (by omega), KPT_r⟩
theorem LV_e {b : Int → Int} {Z Z1 Z' : ZT} {p v : Int} (h : LV b Z Z1 p v) (e1 : Z' 8 1 = Z1 8 1) (e15 : Z' 15 = Z1 15) (e16 : Z' 16 = Z1 16) (e17 : Z' 17 = Z1 17) : LV b Z Z' p v := ⟨e1.trans h.1, TMC_o h.2.1 e15 e16 e17, KPT_o h.2.2 e15 e16 e17⟩
theorem LV_kp {S : List Nat} {b : Int → Int} {Z Z1 Z' : ZT} {p v : Int} (hk : kp S Z1 Z') (hS : (!(S.elem 8) && (!(S.elem 2008) && (avo S 15 && (avo S 16 && avo S 17)))) = true) (h : LV b Z Z1 p v) : LV b Z Z' p v := by
  simp only [Bool.and_eq_true] at hS
  obtain ⟨a1, a2, a3, a4, a5⟩ := hS
  exact LV_e h (hk 8 1 (by decide) (by simpa using a1) (by simpa using a2)) (kp_av hk a3 (by decide)) (kp_av hk a4 (by decide)) (kp_av hk a5 (by decide))
theorem LV_up {b : Int → Int} {Z Z1 Z' : ZT} {p v a : Int} {o k : Nat} (hu : Z' = upZ Z1 o k a) (h8 : o = 8 → k ≠ 1) (h15 : (15 : Nat) ≠ o) (h16 : (16 : Nat) ≠ o) (h17 : (17 : Nat) ≠ o) (h : LV b Z Z1 p v) : LV b Z Z' p v := by
  refine LV_e h ?_ (up_o hu h15) (up_o hu h16) (up_o hu h17)
  rw [hu]
  exact if_neg (fun z => h8 z.1.symm z.2.symm)
theorem LN_step {b pl : Int → Int} {Z Zp Z' : ZT} {p h v v' : Int} (g : LV b Z Zp p v) (gT : TSI b pl (p + 2) h v) (hs : v = 0 ∨ b h = 43 ∨ b h = 45) (hq : v = 0 ∧ h = p + 2 ∨ 1 ≤ v ∧ p + 2 * v + 1 ≤ h) (ht : tmB b pl h = -1 ∧ Z' 6 3 = tmE b h ∧ Z' 8 1 = Zp 8 1 + 1 ∧ Z' 15 = upZ Zp 15 (Zp 8 1).toNat (tmF b h) 15 ∧ Z' 16 = upZ Zp 16 (Zp 8 1).toNat (tmN b h) 16 ∧ Z' 17 = upZ Zp 17 (Zp 8 1).toNat (tmM b h) 17) (hU : 0 ≤ Z 8 1) (hv : 0 ≤ v ∧ v ≤ 79) (hv' : v' = v + 1) : LV b Z Z' p v' ∧ TSI b pl (p + 2) (Z' 6 3) v' ∧ (v' = 0 ∧ Z' 6 3 = p + 2 ∨ 1 ≤ v' ∧ p + 2 * v' + 1 ≤ Z' 6 3) := by
  obtain ⟨hb, t3, t1, t15, t16, t17⟩ := ht
  obtain ⟨g1, g2, g3⟩ := g
  have hh : h = tp b (p + 2) v.toNat := by
    obtain ⟨n, -, -, -, e⟩ := gT
    exact e
  rw [g1] at t15 t16 t17
  have hge := tmE_ge b h
  refine ⟨⟨by omega, TMC_s g2 hU hv.1 rfl hh t15 t16 t17 hv', KPT_s g3 (by omega) hU t15 t16 t17⟩, TSI_s gT hs hb (by omega) t3 hv', Or.inr ⟨by omega, ?_⟩⟩
  rcases hq with ⟨q1, q2⟩ | ⟨q1, q2⟩
  · have := hge.1
    omega
  · have := hge.2 (by omega)
    omega
theorem ORD_le3 {Z : ZT} {d L : Nat} (h : ORD Z d) (hL : L < 4) (hl : Z (d + 2) L < 0) : Z d 0 ≤ 3 := by
  obtain ⟨t, t4, -, -, tn⟩ := h.1 L hL
  have := tn hl
  omega
theorem LN_end {b pl : Int → Int} {Z Zp Zr Z' : ZT} {p e v q d x r L : Int} (hLH : LH b pl Z Zp p L) (hLV : LV b Z Z' p v) (h2 : lnT b pl p = (-1, e, v)) (hd : lnHd b e q d) (hr : lnR b e = r ∧ lnN b e = x) (h59 : b r = 59) (h13 : d = 1 ∧ Zr 13 = Z 13 ∨ Zr 13 = upZ Z 13 L.toNat d 13) (h14 : Zr 14 = upZ Z 14 L.toNat x 14) (hv : 1 ≤ v) (c8 : Z' 8 0 = Zp 8 0 + 1) (c10 : Z' 10 = upZ Zp 10 L.toNat (Zp 8 0) 10) (c12 : Z' 12 = upZ Zp 12 L.toNat (Zp 8 1 - Zp 11 L.toNat) 12) (cq : ∃ q : Nat, q < 4 ∧ Zp 9 q = L ∧ (∀ t : Nat, t < 3 → Z' 9 t = if t < q then Zp 9 t else Zp 9 (t + 1)) ∧ Z' 9 3 = L) (k81 : Z' 8 1 = Zp 8 1) (k11 : Z' 11 = Zp 11) (k13 : Z' 13 = Zr 13) (k14 : Z' 14 = Zr 14) (hO : ORD Z 8) (hU : UL Z) (h0 : 0 ≤ Z 8 0) (hp : pl = plC Z) : lnB b pl p = -1 ∧ lnE b pl p = r + 1 ∧ LNW b pl Z Z' p ∧ ORD Z' 8 ∧ UL Z' ∧ Z 8 0 ≤ 3 := by
  obtain ⟨l1, l2, l3, l4, l5, l6, l7, l8⟩ := hLH
  have hz10 : Z 10 L.toNat < 0 := by
    have := l1.2
    rw [hp] at this
    unfold plC at this
    rw [if_pos (by omega), ← l2] at this
    exact this
  have hok := ln_ok l1 l3 h2 (ln_hd hd).2.2 hr.1 h59
  have e11 : Zp 11 L.toNat = Z 8 1 := by rw [l7, up_eq]
  have e81 : Zp 8 1 = Z 8 1 + v := k81.symm.trans hLV.1
  have w := ln_fin (Z := Z) (Z' := Z') (Zc := Z') l1 l2 h2 hd hr (by omega) (by omega) hLV.1 (c10.trans (up_row2 l6 rfl l4)) (k11.trans l7) (c12.trans (up_row2 l8 rfl (by omega))) (by
    rcases h13 with h | h
    · exact Or.inl ⟨h.1, k13.trans h.2⟩
    · exact Or.inr (k13.trans h)) (hU L.toNat (by omega) hz10) (k14.trans h14) hLV.2.1 hLV.2.2
  have h3 : Z 8 0 ≤ 3 := ORD_le3 (d := 8) hO (L := L.toNat) (by omega) hz10
  obtain ⟨q, q4, qL, q1, q2⟩ := cq
  refine ⟨hok.1, hok.2, w, ?_, UL_fin hU w h0, h3⟩
  exact ORD_fin hO w l1.1 l2 (by rw [← l2]; exact hz10) h0 q4 (by rw [← l5]; exact qL) (fun t ht => by rw [q1 t ht, l5]) q2
