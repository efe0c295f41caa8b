/-! ===== what a line says; a plan cleared, a line closed ===== -/
/-- a line: its terms (first wrong byte, end, how many), divisor, where it ends, nearest, the first wrong byte, the end -/
def lnT (b pl : Int → Int) (p : Int) : Int × Int × Int := tsC b pl 100 (p + 2) 0
def lnD (b : Int → Int) (e : Int) : Int := if b e = 47 then nuV b (e + 1) else 1
def lnQ (b : Int → Int) (e : Int) : Int := if b e = 47 then nuE b (e + 1) else e
def lnN (b : Int → Int) (e : Int) : Int := if b (lnQ b e) = 126 then 1 else 0
def lnR (b : Int → Int) (e : Int) : Int := if b (lnQ b e) = 126 then lnQ b e + 1 else lnQ b e
def lnB (b pl : Int → Int) (p : Int) : Int := if ¬((97 ≤ b p ∧ b p ≤ 100) ∧ pl (b p - 97) < 0) then p else if b (p + 1) ≠ 61 then p + 1 else if (lnT b pl p).1 ≠ -1 then (lnT b pl p).1 else if b (lnT b pl p).2.1 = 47 ∧ ¬nuOK b ((lnT b pl p).2.1 + 1) 1000 then (lnT b pl p).2.1 + 1 else if b (lnR b (lnT b pl p).2.1) ≠ 59 then lnR b (lnT b pl p).2.1 else -1
def lnE (b pl : Int → Int) (p : Int) : Int := lnR b (lnT b pl p).2.1 + 1
/-- in the midst of a line's terms -/
def TSI (b pl : Int → Int) (p0 h v : Int) : Prop := ∃ n : Nat, (n : Int) = 100 - v ∧ 0 ≤ v ∧ (v = 0 ∧ tsC b pl 100 p0 0 = tsC b pl n h 0 ∨ 1 ≤ v ∧ tsC b pl 100 p0 0 = if b h = 43 ∨ b h = 45 then tsC b pl n h v else (-1, h, v)) ∧ h = tp b p0 v.toNat
theorem TSI_0 {b pl : Int → Int} {p0 h v : Int} (hh : h = p0) (hv : v = 0) : TSI b pl p0 h v := by
  subst hh hv
  exact ⟨100, by decide, by decide, Or.inl ⟨rfl, rfl⟩, rfl⟩
theorem TSI_g {b pl : Int → Int} {p0 h v : Int} (h1 : TSI b pl p0 h v) (hs : v = 0 ∨ b h = 43 ∨ b h = 45) : ∃ n : Nat, (n : Int) = 100 - v ∧ 0 ≤ v ∧ tsC b pl 100 p0 0 = tsC b pl n h v ∧ h = tp b p0 v.toNat := by
  obtain ⟨n, hn, h0, hc, ht⟩ := h1
  refine ⟨n, hn, h0, ?_, ht⟩
  rcases hc with ⟨hv, hc⟩ | ⟨hv, hc⟩
  · rw [hc, hv]
  · rw [hc, if_pos (by omega)]
theorem TSI_s {b pl : Int → Int} {p0 h v h' v' : Int} (h1 : TSI b pl p0 h v) (hs : v = 0 ∨ b h = 43 ∨ b h = 45) (hb : tmB b pl h = -1) (hv : v ≤ 98) (hh : h' = tmE b h) (hv' : v' = v + 1) : TSI b pl p0 h' v' := by
  obtain ⟨n, hn, h0, hc, ht⟩ := TSI_g h1 hs
  obtain ⟨k, rfl⟩ : ∃ k, n = k + 1 := ⟨n - 1, by omega⟩
  subst hv'
  refine ⟨k, by omega, by omega, Or.inr ⟨by omega, ?_⟩, ?_⟩
  · rw [hc, hh]
    show (if tmB b pl h ≠ -1 then _ else _) = _
    rw [if_neg (fun g => g hb)]
  · rw [hh, ht, show (v + 1).toNat = v.toNat + 1 by omega]
    rfl
theorem TSI_x {b pl : Int → Int} {p0 h v : Int} (h1 : TSI b pl p0 h v) (hv : 1 ≤ v) (hs : ¬(b h = 43 ∨ b h = 45)) : tsC b pl 100 p0 0 = (-1, h, v) := by
  obtain ⟨n, hn, h0, hc, ht⟩ := h1
  rcases hc with ⟨hv, hc⟩ | ⟨hv, hc⟩
  · omega
  · rw [hc, if_neg hs]
theorem TSI_b {b pl : Int → Int} {p0 h v : Int} (h1 : TSI b pl p0 h v) (hs : v = 0 ∨ b h = 43 ∨ b h = 45) (hv : v ≤ 99) (hb : tmB b pl h ≠ -1) : (tsC b pl 100 p0 0).1 = tmB b pl h := by
  obtain ⟨n, hn, h0, hc, ht⟩ := TSI_g h1 hs
  obtain ⟨k, rfl⟩ : ∃ k, n = k + 1 := ⟨n - 1, by omega⟩
  rw [hc]
  show (if tmB b pl h ≠ -1 then ((tmB b pl h, h, v) : Int × Int × Int) else if b (tmE b h) = 43 ∨ b (tmE b h) = 45 then tsC b pl k (tmE b h) (v + 1) else (-1, tmE b h, v + 1)).1 = _
  rw [if_pos hb]
theorem dgE_ge (b : Int → Int) : ∀ (n : Nat) (p : Int), p ≤ dgE b n p
  | 0, p => Int.le_refl p
  | n + 1, p => by
    unfold dgE
    split
    · have := dgE_ge b n (p + 1)
      omega
    · omega
theorem nmE_ge (b : Int → Int) (p : Int) : p + 1 ≤ nmE b p := by
  have e : nmQ b p = p + 2 ∨ nmQ b p = p + 1 := by
    show (if 0 < nmS b p then p + 2 else p + 1) = p + 2 ∨ (if 0 < nmS b p then p + 2 else p + 1) = p + 1
    split
    · exact Or.inl rfl
    · exact Or.inr rfl
  unfold nmE
  split <;> omega
theorem tmE_ge (b : Int → Int) (p : Int) : p + 1 ≤ tmE b p ∧ (b p = 43 ∨ b p = 45 → p + 2 ≤ tmE b p) := by
  have h1 : tmP b p = p ∨ tmP b p = p + 1 := by
    unfold tmP
    split
    · exact Or.inr rfl
    · exact Or.inl rfl
  have h2 : b p = 43 ∨ b p = 45 → tmP b p = p + 1 := fun h => by
    unfold tmP
    rw [if_pos (by omega)]
  have h3 : tmP b p ≤ tmQ b p := by
    unfold tmQ
    split
    · exact dgE_ge b 200 _
    · omega
  have h4 : tmQ b p + 1 ≤ tmR b p := nmE_ge b _
  have h5 : tmR b p ≤ tmE b p := by
    unfold tmE
    split
    · have := nmE_ge b (tmR b p + 1)
      omega
    · omega
  refine ⟨by omega, fun h => ?_⟩
  have := h2 h
  omega
/-- the terms of a line in three rows -/
def TMC (b : Int → Int) (Z : ZT) (u p0 v : Int) : Prop := ∀ j : Nat, (j : Int) < v → Z 15 (u.toNat + j) = tmF b (tp b p0 j) ∧ Z 16 (u.toNat + j) = tmN b (tp b p0 j) ∧ Z 17 (u.toNat + j) = tmM b (tp b p0 j)
def KPT (Z Z' : ZT) (u : Int) : Prop := ∀ t : Nat, (t : Int) < u → Z' 15 t = Z 15 t ∧ Z' 16 t = Z 16 t ∧ Z' 17 t = Z 17 t
theorem TMC_0 {b : Int → Int} {Z : ZT} {u p0 v : Int} (hv : v ≤ 0) : TMC b Z u p0 v := fun j hj => by omega
theorem TMC_s {b : Int → Int} {Z Z' : ZT} {u p0 v v' w h : Int} (g : TMC b Z u p0 v) (hu : 0 ≤ u) (h0 : 0 ≤ v) (hw : w = u + v) (ht : h = tp b p0 v.toNat) (e1 : Z' 15 = upZ Z 15 w.toNat (tmF b h) 15) (e2 : Z' 16 = upZ Z 16 w.toNat (tmN b h) 16) (e3 : Z' 17 = upZ Z 17 w.toNat (tmM b h) 17) (hv : v' = v + 1) : TMC b Z' u p0 v' := by
  subst hv hw
  intro j hj
  rw [e1, e2, e3]
  by_cases hq : (j : Int) = v
  · have q : u.toNat + j = (u + v).toNat := by omega
    have q2 : v.toNat = j := by omega
    rw [q, up_eq, up_eq, up_eq, ht, q2]
    exact ⟨rfl, rfl, rfl⟩
  · rw [up_nk (by omega), up_nk (by omega), up_nk (by omega)]
    exact g j (by omega)
theorem TMC_o {b : Int → Int} {Z Z' : ZT} {u p0 v : Int} (g : TMC b Z u p0 v) (e1 : Z' 15 = Z 15) (e2 : Z' 16 = Z 16) (e3 : Z' 17 = Z 17) : TMC b Z' u p0 v := by
  intro j hj
  rw [e1, e2, e3]
  exact g j hj
theorem KPT_r {Z : ZT} {u : Int} : KPT Z Z u := fun _ _ => ⟨rfl, rfl, rfl⟩
theorem KPT_s {Z Z1 Z' : ZT} {u w a1 a2 a3 : Int} (g : KPT Z Z1 u) (hw : u ≤ w) (h0 : 0 ≤ u) (e1 : Z' 15 = upZ Z1 15 w.toNat a1 15) (e2 : Z' 16 = upZ Z1 16 w.toNat a2 16) (e3 : Z' 17 = upZ Z1 17 w.toNat a3 17) : KPT Z Z' u := fun t ht => by
  rw [e1, e2, e3, up_nk (by omega), up_nk (by omega), up_nk (by omega)]
  exact g t ht
theorem KPT_o {Z Z1 Z' : ZT} {u : Int} (g : KPT Z Z1 u) (e1 : Z' 15 = Z1 15) (e2 : Z' 16 = Z1 16) (e3 : Z' 17 = Z1 17) : KPT Z Z' u := fun t ht => by
  rw [e1, e2, e3]
  exact g t ht
/-- the letters' order: each stands once; those with a line last, as the lines stand -/
def ORD (Z : ZT) (d : Nat) : Prop := (∀ l : Nat, l < 4 → ∃ t : Nat, t < 4 ∧ Z (d + 1) t = l ∧ (0 ≤ Z (d + 2) l → (t : Int) = 4 - Z d 0 + Z (d + 2) l) ∧ (Z (d + 2) l < 0 → (t : Int) < 4 - Z d 0)) ∧ ∀ t t' : Nat, t < 4 → t' < 4 → Z (d + 1) t = Z (d + 1) t' → t = t'
/-- closing a line: how far the order is moved -/
def CLI (Z Z1 : ZT) (d q : Nat) (v w : Int) : Prop := (w ≤ q ∧ v = w ∨ (q : Int) < w ∧ v = w - 1) ∧ ∀ t : Nat, ((t : Int) < v → Z1 (d + 1) t = if t < q then Z (d + 1) t else Z (d + 1) (t + 1)) ∧ (v ≤ t → Z1 (d + 1) t = Z (d + 1) t)
theorem CLI_0 {Z Z1 : ZT} {d q : Nat} {v w : Int} (e : Z1 (d + 1) = Z (d + 1)) (hv : v = 0) (hw : w = 0) : CLI Z Z1 d q v w := by
  subst hv hw
  refine ⟨Or.inl ⟨by omega, rfl⟩, fun t => ⟨fun h => by omega, fun _ => by rw [e]⟩⟩
theorem CLI_n {Z Z1 : ZT} {d q : Nat} {v w w' : Int} (h : CLI Z Z1 d q v w) (hq : w = q) (hw : w' = w + 1) : CLI Z Z1 d q v w' := by
  subst hw
  obtain ⟨h1, h2⟩ := h
  refine ⟨Or.inr ⟨by omega, by omega⟩, h2⟩
theorem CLI_s {Z Z1 Z' : ZT} {d q : Nat} {v w v' w' a : Int} (h : CLI Z Z1 d q v w) (hu : Z' (d + 1) = upZ Z1 (d + 1) v.toNat a (d + 1)) (ha : a = Z1 (d + 1) w.toNat) (hq : w ≠ q) (h0 : 0 ≤ v) (h1 : 0 ≤ w) (hv : v' = v + 1) (hw : w' = w + 1) : CLI Z Z' d q v' w' := by
  subst hv hw
  obtain ⟨g1, g2⟩ := h
  refine ⟨by omega, fun t => ⟨fun ht => ?_, fun ht => ?_⟩⟩
  · rw [hu]
    by_cases hz : t = v.toNat
    · rw [hz, up_eq, ha, (g2 w.toNat).2 (by omega)]
      by_cases hlt : v.toNat < q
      · rw [if_pos hlt, show w.toNat = v.toNat by omega]
      · rw [if_neg hlt, show w.toNat = v.toNat + 1 by omega]
    · rw [up_nk hz]
      exact (g2 t).1 (by omega)
  · rw [hu, up_nk (by omega)]
    exact (g2 t).2 (by omega)
theorem ORD_close {Z Z' : ZT} {d L : Nat} (h : ORD Z d) (hL : L < 4) (hl : Z (d + 2) L < 0) (hk : 0 ≤ Z d 0) (e0 : Z' d 0 = Z d 0 + 1) (e2 : Z' (d + 2) = upZ Z (d + 2) L (Z d 0) (d + 2)) {q : Nat} (hq : q < 4) (hqL : Z (d + 1) q = L) (e1 : ∀ t : Nat, t < 3 → Z' (d + 1) t = if t < q then Z (d + 1) t else Z (d + 1) (t + 1)) (e3 : Z' (d + 1) 3 = L) : ORD Z' d := by
  obtain ⟨h1, h2⟩ := h
  obtain ⟨tL, tL4, tLe, -, tLn⟩ := h1 L hL
  have hqt : tL = q := h2 tL q tL4 hq (tLe.trans hqL.symm)
  have hq4 := tLn hl
  refine ⟨fun l hl4 => ?_, fun t t' ht ht' he => ?_⟩
  · rw [e0, e2]
    by_cases hlL : l = L
    · subst hlL
      refine ⟨3, by decide, e3, fun _ => ?_, fun hn => ?_⟩
      · rw [up_eq]
        omega
      · rw [up_eq] at hn
        omega
    · rw [up_nk hlL]
      obtain ⟨t, t4, te, tp_, tn⟩ := h1 l hl4
      have htq : t ≠ q := fun e => by
        subst e
        rw [te] at hqL
        omega
      by_cases hlt : t < q
      · refine ⟨t, t4, ?_, fun hp => ?_, fun hn => ?_⟩
        · rw [e1 t (by omega), if_pos hlt]
          exact te
        · have := tp_ hp
          omega
        · have := tn hn
          omega
      · refine ⟨t - 1, by omega, ?_, fun hp => ?_, fun hn => ?_⟩
        · rw [e1 (t - 1) (by omega), if_neg (by omega), show t - 1 + 1 = t by omega]
          exact te
        · have := tp_ hp
          omega
        · have := tn hn
          omega
  · have key : ∀ s : Nat, s < 3 → ∃ r : Nat, r < 4 ∧ r ≠ q ∧ Z' (d + 1) s = Z (d + 1) r ∧ (s < q ∧ r = s ∨ q ≤ s ∧ r = s + 1) := fun s hs => by
      rw [e1 s hs]
      by_cases hlt : s < q
      · exact ⟨s, by omega, by omega, by rw [if_pos hlt], Or.inl ⟨hlt, rfl⟩⟩
      · exact ⟨s + 1, by omega, by omega, by rw [if_neg hlt], Or.inr ⟨by omega, rfl⟩⟩
    by_cases h3 : t = 3
    · by_cases h3' : t' = 3
      · omega
      · obtain ⟨r, r4, rq, re, -⟩ := key t' (by omega)
        rw [h3, e3, re] at he
        exact absurd (h2 q r hq r4 (hqL.trans he)).symm rq
    · by_cases h3' : t' = 3
      · obtain ⟨r, r4, rq, re, -⟩ := key t (by omega)
        rw [h3', e3, re] at he
        exact absurd (h2 r q r4 hq (he.trans hqL.symm)) rq
      · obtain ⟨r, r4, rq, re, rc⟩ := key t (by omega)
        obtain ⟨r', r4', rq', re', rc'⟩ := key t' (by omega)
        rw [re, re'] at he
        have := h2 r r' r4 r4' he
        omega
theorem ORD_0 {Z : ZT} {d : Nat} (h0 : Z d 0 = 0) (h1 : OI Z (d + 1) 4) (h2 : FL Z (d + 2) (-1) 4) : ORD Z d := by
  refine ⟨fun l hl => ⟨l, hl, h1 l (by omega), fun hp => ?_, fun _ => by omega⟩, fun t t' ht ht' he => ?_⟩
  · have := h2 l (by omega)
    omega
  · have e1 := h1 t (by omega)
    have e2 := h1 t' (by omega)
    omega
theorem CLI_eq {Z Z1 : ZT} {d q : Nat} {v w a : Int} (h : CLI Z Z1 d q v w) (hv : v ≤ w) (h0 : 0 ≤ w) (h3 : w < 4) (hu : ∀ t : Nat, t < 4 → Z (d + 1) t = a → t = q) (he : Z1 (d + 1) w.toNat = a) : w = q := by
  have := hu w.toNat (by omega) (((h.2 w.toNat).2 (by omega)).symm.trans he)
  omega
theorem CLI_ne {Z Z1 : ZT} {d q : Nat} {v w a : Int} (h : CLI Z Z1 d q v w) (hv : v ≤ w) (h0 : 0 ≤ w) (hqa : Z (d + 1) q = a) (he : Z1 (d + 1) w.toNat ≠ a) : w ≠ q := fun e => by
  have e2 : w.toNat = q := by omega
  exact he (((h.2 w.toNat).2 (by omega)).trans (by rw [e2]; exact hqa))
theorem CLI_e {Z Z1 Z' : ZT} {d q : Nat} {v w a : Int} (h : CLI Z Z1 d q v w) (hw : w = 4) (hq : q < 4) (hu : Z' (d + 1) = upZ Z1 (d + 1) 3 a (d + 1)) : (∀ t : Nat, t < 3 → Z' (d + 1) t = if t < q then Z (d + 1) t else Z (d + 1) (t + 1)) ∧ Z' (d + 1) 3 = a := by
  obtain ⟨h1, h2⟩ := h
  refine ⟨fun t ht => ?_, ?_⟩
  · rw [hu, up_nk (by omega)]
    exact (h2 t).1 (by omega)
  · rw [hu, up_eq]
def s_X5_clearX : Sp := rRV 1 5 (fun as Z => match as with
    | [.inr (.inr a0)] => ((a0 = 8)) ∧ True
    | _ => False) (fun as => match as with
    | [.inr (.inr a0)] => [8, 9, 10, 11, 12, 13, 14]
    | _ => []) (fun as Z Z' => match as with
    | [.inr (.inr a0)] => (Z' 8 0 = 0) ∧ (Z' 8 1 = 0) ∧ (OI Z' 9 4) ∧ (FL Z' 10 (-1) 4) ∧ (FL Z' 11 (0) 4) ∧ (FL Z' 12 (0) 4) ∧ (FL Z' 13 (1) 4) ∧ (FL Z' 14 (0) 4) ∧ True
    | _ => False)
set_option maxRecDepth 100000 in
set_option maxHeartbeats 40000000 in
theorem c_X5_clearX {l : Launch} {D : va_G} {cA : Nat → ClassId} : PM l D cA yX5_clear cX5_clear 2 none 0 0 s_X5_clearX := by
  refine of_X5_clear  (fun as σ hwf hao hpre => ?_)
  obtain ⟨n, Z, R⟩ := σ
  obtain ⟨hR, hI, hpre⟩ := hpre
  obtain rfl : R = R0 := hR
  rcases as with _ | ⟨x | x | a0, _ | ⟨v, t⟩⟩ <;> first | exact (hpre : False).elim | skip
  obtain ⟨h0, -⟩ := hpre
  have hk : kp ([8, 9, 10, 11, 12, 13, 14]) Z Z := kp_refl
  refine ⟨Nat.le_of_ble_eq_true rfl, fun G hG => ?_⟩
  clear hao hwf
  obtain rfl := h0
  have loop : ∀ fuel : Nat, (∀ (Z1 : ZT) (v1 : Int), CI Z1 → kp ([8, 9, 10, 11, 12, 13, 14]) Z Z1 → ((0 ≤ v1 ∧ v1 ≤ 4) ∧ (Z1 8 0 = 0) ∧ (Z1 8 1 = 0) ∧ (OI Z1 9 v1) ∧ (FL Z1 10 (-1) v1) ∧ (FL Z1 11 (0) v1) ∧ (FL Z1 12 (0) v1) ∧ (FL Z1 13 (1) v1) ∧ (FL Z1 14 (0) v1) ∧ True) → 5 - v1 ≤ (fuel : Int) → G 12 [(0, vr 8), (1, vi v1)] [] (n, Z1, R0)) := by
    intro fuel
    induction fuel with
    | zero => exact (by intros; omega)
    | succ fuel ih =>
      have ih12 := ih
      · intro Z1 v1 hI1 hk1 hv hm
        obtain ⟨w0, w1, w2, w3, w4, w5, w6, w7, w8, -⟩ := hv
        clear hk hI
        have oi := w3
        have fl10 := w4
        have fl11 := w5
        have fl12 := w6
        have fl13 := w7
        have fl14 := w8
        refine wq_run hG n R0 [12] 900 _ _ _ _ ?_
        repeat' (first
            | with_reducible rfl
            | refine And.intro ?_ ?_
            | with_reducible exact True.intro
            | ((with_reducible show _ = true); rfl)
            | ((with_reducible show recvG _ _); rfl)
            | ((with_reducible show CI _); assumption)
            | (fail_if_success (first | (with_reducible show _ ≤ _) | (with_reducible show _ = _) | (with_reducible show _ ∨ _) | (with_reducible show _ < _))
               first
               | (refine ld_bnd (by assumption) rfl ?_; intro _ _ _ hld; (try dsimp only at hld); (try simp only [Nat.reduceAdd] at hld))
               | (refine st_k (by assumption) (by assumption) (by first | exact Or.inl (by decide) | exact Or.inr (by decide)) (fun lo hi hb => by first | (cases hb; done) | (cases hb; constructor <;> (first | omega | ((try dsimp only); (first | omega | (simp (disch := omega) only [w32_id, w64_id]; omega) | (simp only [w32, w64]; omega) | (with_reducible refine (and32_le ?_ ?_).1 <;> omega) | (with_reducible refine (and32_le ?_ ?_).2 <;> omega) | (with_reducible refine (mulR ?_ ?_ ?_ ?_).1 <;> omega) | (with_reducible refine (mulR ?_ ?_ ?_ ?_).2 <;> omega) | (simp only [w32, w64] at *; omega) | (simp (disch := omega) only [w32_id, w64_id] at *; omega) | (simp (disch := omega) only [tdiv_nn, tmod_nn, w32_id, w64_id] at *; omega) | (subst_vars; simp [upZ] at *; omega) | (subst_vars; simp [upZ] at *; simp only [w32, w64] at *; omega))) | fail))) ?_; intro Z' _ hkk; intro hup; (try dsimp only at hup); (first | have := (congrFun (congrFun hup 8) 0).trans (up_ne (by decide)) | have := (congrFun (congrFun hup 8) 0).trans (up_nk (by decide)) | skip); (first | have := (congrFun (congrFun hup 8) 1).trans (up_ne (by decide)) | have := (congrFun (congrFun hup 8) 1).trans (up_nk (by decide)) | skip); (first | have fl10 := FL_up hup fl10 (by first | rfl | omega) (by omega) | have fl10 := FL_o (up_o hup (by decide)) fl10 | skip); (first | have fl11 := FL_up hup fl11 (by first | rfl | omega) (by omega) | have fl11 := FL_o (up_o hup (by decide)) fl11 | skip); (first | have fl12 := FL_up hup fl12 (by first | rfl | omega) (by omega) | have fl12 := FL_o (up_o hup (by decide)) fl12 | skip); (first | have fl13 := FL_up hup fl13 (by first | rfl | omega) (by omega) | have fl13 := FL_o (up_o hup (by decide)) fl13 | skip); (first | have fl14 := FL_up hup fl14 (by first | rfl | omega) (by omega) | have fl14 := FL_o (up_o hup (by decide)) fl14 | skip); (first | have oi := OI_up hup oi (by omega) (by omega) | have oi := OI_o (up_o hup (by decide)) oi | skip))
               | (refine st_k (by assumption) (by assumption) (by first | exact Or.inl (by decide) | exact Or.inr (by decide)) (fun lo hi hb => ?_) ?_; (cases hb; refine And.intro ?_ ?_))
               | refine st_same ?_
               | (intro (r : Option PV) σ' hq
                  first
                  | (obtain ⟨rfl, x, rfl, hp⟩ := hq; (try replace hp : _ ∧ _ := hp); (try dsimp only at hp))
                  | (obtain ⟨Z', (o : Nat), rfl, rfl, hI2, hk2, ⟨⟨hp, rfl⟩ | ⟨hp, rfl⟩, -⟩⟩ := hq <;> ((first | have hk3 := kp_to (by assumption) (by rfl) hk2 | have hk3 := ks_to (by assumption) (by rfl) hk2); (first | have fl10 := FL_o (kp_av (o := 10) hk2 (by rfl) (by decide)) fl10 | have fl10 := FL_o (ks_av (o := 10) hk2 (by rfl)) fl10 | skip); (first | have fl11 := FL_o (kp_av (o := 11) hk2 (by rfl) (by decide)) fl11 | have fl11 := FL_o (ks_av (o := 11) hk2 (by rfl)) fl11 | skip); (first | have fl12 := FL_o (kp_av (o := 12) hk2 (by rfl) (by decide)) fl12 | have fl12 := FL_o (ks_av (o := 12) hk2 (by rfl)) fl12 | skip); (first | have fl13 := FL_o (kp_av (o := 13) hk2 (by rfl) (by decide)) fl13 | have fl13 := FL_o (ks_av (o := 13) hk2 (by rfl)) fl13 | skip); (first | have fl14 := FL_o (kp_av (o := 14) hk2 (by rfl) (by decide)) fl14 | have fl14 := FL_o (ks_av (o := 14) hk2 (by rfl)) fl14 | skip); clear hk2))
                  | (obtain ⟨Z', x, rfl, rfl, hI2, hk2, hp⟩ := hq; (try replace hp : _ ∧ _ := hp); (try dsimp only at hp); (first | have hk3 := kp_to (by assumption) (by rfl) hk2 | have hk3 := ks_to (by assumption) (by rfl) hk2); (first | have fl10 := FL_o (kp_av (o := 10) hk2 (by rfl) (by decide)) fl10 | have fl10 := FL_o (ks_av (o := 10) hk2 (by rfl)) fl10 | skip); (first | have fl11 := FL_o (kp_av (o := 11) hk2 (by rfl) (by decide)) fl11 | have fl11 := FL_o (ks_av (o := 11) hk2 (by rfl)) fl11 | skip); (first | have fl12 := FL_o (kp_av (o := 12) hk2 (by rfl) (by decide)) fl12 | have fl12 := FL_o (ks_av (o := 12) hk2 (by rfl)) fl12 | skip); (first | have fl13 := FL_o (kp_av (o := 13) hk2 (by rfl) (by decide)) fl13 | have fl13 := FL_o (ks_av (o := 13) hk2 (by rfl)) fl13 | skip); (first | have fl14 := FL_o (kp_av (o := 14) hk2 (by rfl) (by decide)) fl14 | have fl14 := FL_o (ks_av (o := 14) hk2 (by rfl)) fl14 | skip); clear hk2)
                  | (obtain ⟨Z', rfl, rfl, hI2, hk2, hp⟩ := hq; (try replace hp : _ ∧ _ := hp); (try dsimp only at hp); (first | have hk3 := kp_to (by assumption) (by rfl) hk2 | have hk3 := ks_to (by assumption) (by rfl) hk2); (first | have fl10 := FL_o (kp_av (o := 10) hk2 (by rfl) (by decide)) fl10 | have fl10 := FL_o (ks_av (o := 10) hk2 (by rfl)) fl10 | skip); (first | have fl11 := FL_o (kp_av (o := 11) hk2 (by rfl) (by decide)) fl11 | have fl11 := FL_o (ks_av (o := 11) hk2 (by rfl)) fl11 | skip); (first | have fl12 := FL_o (kp_av (o := 12) hk2 (by rfl) (by decide)) fl12 | have fl12 := FL_o (ks_av (o := 12) hk2 (by rfl)) fl12 | skip); (first | have fl13 := FL_o (kp_av (o := 13) hk2 (by rfl) (by decide)) fl13 | have fl13 := FL_o (ks_av (o := 13) hk2 (by rfl)) fl13 | skip); (first | have fl14 := FL_o (kp_av (o := 14) hk2 (by rfl) (by decide)) fl14 | have fl14 := FL_o (ks_av (o := 14) hk2 (by rfl)) fl14 | skip); clear hk2)
                  | (obtain ⟨rfl, rfl⟩ := hq)
                  | (obtain ⟨Z', x, rfl, rfl, hI2, hk2⟩ := hq; have hkn := keeps_nil hk2; clear hk2; subst hkn)
                  | (obtain ⟨Z', x, rfl, rfl, hI2, hk2⟩ := hq; (first | have hk3 := kp_to (by assumption) (by rfl) hk2 | have hk3 := ks_to (by assumption) (by rfl) hk2); (first | have fl10 := FL_o (kp_av (o := 10) hk2 (by rfl) (by decide)) fl10 | have fl10 := FL_o (ks_av (o := 10) hk2 (by rfl)) fl10 | skip); (first | have fl11 := FL_o (kp_av (o := 11) hk2 (by rfl) (by decide)) fl11 | have fl11 := FL_o (ks_av (o := 11) hk2 (by rfl)) fl11 | skip); (first | have fl12 := FL_o (kp_av (o := 12) hk2 (by rfl) (by decide)) fl12 | have fl12 := FL_o (ks_av (o := 12) hk2 (by rfl)) fl12 | skip); (first | have fl13 := FL_o (kp_av (o := 13) hk2 (by rfl) (by decide)) fl13 | have fl13 := FL_o (ks_av (o := 13) hk2 (by rfl)) fl13 | skip); (first | have fl14 := FL_o (kp_av (o := 14) hk2 (by rfl) (by decide)) fl14 | have fl14 := FL_o (ks_av (o := 14) hk2 (by rfl)) fl14 | skip); clear hk2)
                  | (rcases hq with ⟨Z', rfl, rfl, hI2, hk2⟩ | ⟨Z', rfl, rfl, hI2, hk2⟩ <;> ((first | have hk3 := kp_to (by assumption) (by rfl) hk2 | have hk3 := ks_to (by assumption) (by rfl) hk2); (first | have fl10 := FL_o (kp_av (o := 10) hk2 (by rfl) (by decide)) fl10 | have fl10 := FL_o (ks_av (o := 10) hk2 (by rfl)) fl10 | skip); (first | have fl11 := FL_o (kp_av (o := 11) hk2 (by rfl) (by decide)) fl11 | have fl11 := FL_o (ks_av (o := 11) hk2 (by rfl)) fl11 | skip); (first | have fl12 := FL_o (kp_av (o := 12) hk2 (by rfl) (by decide)) fl12 | have fl12 := FL_o (ks_av (o := 12) hk2 (by rfl)) fl12 | skip); (first | have fl13 := FL_o (kp_av (o := 13) hk2 (by rfl) (by decide)) fl13 | have fl13 := FL_o (ks_av (o := 13) hk2 (by rfl)) fl13 | skip); (first | have fl14 := FL_o (kp_av (o := 14) hk2 (by rfl) (by decide)) fl14 | have fl14 := FL_o (ks_av (o := 14) hk2 (by rfl)) fl14 | skip); clear hk2))
                  | (obtain ⟨Z', rfl, rfl, hI2, hk2⟩ := hq; (first | have hk3 := kp_to (by assumption) (by rfl) hk2 | have hk3 := ks_to (by assumption) (by rfl) hk2); (first | have fl10 := FL_o (kp_av (o := 10) hk2 (by rfl) (by decide)) fl10 | have fl10 := FL_o (ks_av (o := 10) hk2 (by rfl)) fl10 | skip); (first | have fl11 := FL_o (kp_av (o := 11) hk2 (by rfl) (by decide)) fl11 | have fl11 := FL_o (ks_av (o := 11) hk2 (by rfl)) fl11 | skip); (first | have fl12 := FL_o (kp_av (o := 12) hk2 (by rfl) (by decide)) fl12 | have fl12 := FL_o (ks_av (o := 12) hk2 (by rfl)) fl12 | skip); (first | have fl13 := FL_o (kp_av (o := 13) hk2 (by rfl) (by decide)) fl13 | have fl13 := FL_o (ks_av (o := 13) hk2 (by rfl)) fl13 | skip); (first | have fl14 := FL_o (kp_av (o := 14) hk2 (by rfl) (by decide)) fl14 | have fl14 := FL_o (ks_av (o := 14) hk2 (by rfl)) fl14 | skip); clear hk2))
               | (intro hc; (try simp only [cmp3_c] at hc); simp only [cmpI] at hc)
               | (show CI _; assumption)
               | intro (_ : Int)
               | intro (Z' : ZT)
               | intro (_ : CI _)
               | (intro (hkk : kp _ _ _))
               | intro (_ : _ ≤ _)
               | (intro (hup : _ = upZ _ _ _ _); (try dsimp only at hup); (first | have := (congrFun (congrFun hup 8) 0).trans (up_ne (by decide)) | have := (congrFun (congrFun hup 8) 0).trans (up_nk (by decide)) | skip); (first | have := (congrFun (congrFun hup 8) 1).trans (up_ne (by decide)) | have := (congrFun (congrFun hup 8) 1).trans (up_nk (by decide)) | skip); (first | have fl10 := FL_up hup fl10 (by first | rfl | omega) (by omega) | have fl10 := FL_o (up_o hup (by decide)) fl10 | skip); (first | have fl11 := FL_up hup fl11 (by first | rfl | omega) (by omega) | have fl11 := FL_o (up_o hup (by decide)) fl11 | skip); (first | have fl12 := FL_up hup fl12 (by first | rfl | omega) (by omega) | have fl12 := FL_o (up_o hup (by decide)) fl12 | skip); (first | have fl13 := FL_up hup fl13 (by first | rfl | omega) (by omega) | have fl13 := FL_o (up_o hup (by decide)) fl13 | skip); (first | have fl14 := FL_up hup fl14 (by first | rfl | omega) (by omega) | have fl14 := FL_o (up_o hup (by decide)) fl14 | skip); (first | have oi := OI_up hup oi (by omega) (by omega) | have oi := OI_o (up_o hup (by decide)) oi | skip))
               | (intro (hld : _ = _); (try dsimp only at hld); (try simp only [Nat.reduceAdd] at hld))
               | intro (_ : _ < _)
               | intro (_ : _ ≠ _)
               | intro (_ : _ ∨ _)))
        all_goals first
          | refine hG.2 12 _ [(0, vr 8), (1, vi _)] _ _ rfl ?_
          | skip
        all_goals first
          | with_reducible rfl
          | ((with_reducible show _ = _); rfl)
          | ((with_reducible show recvG _ _); rfl)
          | ((with_reducible show G 12 _ _ _); refine ih12 _ _ ?_ ?_ ?_ ?_; assumption; assumption; (refine ⟨?_, ?_, ?_, ?_, ?_, ?_, ?_, ?_, ?_, trivial⟩; (first | done | focus (first | (dsimp only; done) | ((try dsimp only); (first | omega | (refine ⟨?_, ?_⟩ <;> (first | omega | ((try dsimp only); (first | omega | (simp (disch := omega) only [w32_id, w64_id]; omega) | (simp only [w32, w64]; omega) | (with_reducible refine (and32_le ?_ ?_).1 <;> omega) | (with_reducible refine (and32_le ?_ ?_).2 <;> omega) | (with_reducible refine (mulR ?_ ?_ ?_ ?_).1 <;> omega) | (with_reducible refine (mulR ?_ ?_ ?_ ?_).2 <;> omega) | (simp only [w32, w64] at *; omega) | (simp (disch := omega) only [w32_id, w64_id] at *; omega) | (simp (disch := omega) only [tdiv_nn, tmod_nn, w32_id, w64_id] at *; omega) | (subst_vars; simp [upZ] at *; omega) | (subst_vars; simp [upZ] at *; simp only [w32, w64] at *; omega))) | fail)) | (first | omega | ((try dsimp only); (first | omega | (simp (disch := omega) only [w32_id, w64_id]; omega) | (simp only [w32, w64]; omega) | (with_reducible refine (and32_le ?_ ?_).1 <;> omega) | (with_reducible refine (and32_le ?_ ?_).2 <;> omega) | (with_reducible refine (mulR ?_ ?_ ?_ ?_).1 <;> omega) | (with_reducible refine (mulR ?_ ?_ ?_ ?_).2 <;> omega) | (simp only [w32, w64] at *; omega) | (simp (disch := omega) only [w32_id, w64_id] at *; omega) | (simp (disch := omega) only [tdiv_nn, tmod_nn, w32_id, w64_id] at *; omega) | (subst_vars; simp [upZ] at *; omega) | (subst_vars; simp [upZ] at *; simp only [w32, w64] at *; omega))) | fail) | fail)))); (first | done | focus (first | (dsimp only; done) | ((try dsimp only); (first | with_reducible assumption | first | omega | (refine ⟨?_, ?_⟩ <;> (first | omega | ((try dsimp only); (first | omega | (simp (disch := omega) only [w32_id, w64_id]; omega) | (simp only [w32, w64]; omega) | (with_reducible refine (and32_le ?_ ?_).1 <;> omega) | (with_reducible refine (and32_le ?_ ?_).2 <;> omega) | (with_reducible refine (mulR ?_ ?_ ?_ ?_).1 <;> omega) | (with_reducible refine (mulR ?_ ?_ ?_ ?_).2 <;> omega) | (simp only [w32, w64] at *; omega) | (simp (disch := omega) only [w32_id, w64_id] at *; omega) | (simp (disch := omega) only [tdiv_nn, tmod_nn, w32_id, w64_id] at *; omega) | (subst_vars; simp [upZ] at *; omega) | (subst_vars; simp [upZ] at *; simp only [w32, w64] at *; omega))) | fail)) | (first | omega | ((try dsimp only); (first | omega | (simp (disch := omega) only [w32_id, w64_id]; omega) | (simp only [w32, w64]; omega) | (with_reducible refine (and32_le ?_ ?_).1 <;> omega) | (with_reducible refine (and32_le ?_ ?_).2 <;> omega) | (with_reducible refine (mulR ?_ ?_ ?_ ?_).1 <;> omega) | (with_reducible refine (mulR ?_ ?_ ?_ ?_).2 <;> omega) | (simp only [w32, w64] at *; omega) | (simp (disch := omega) only [w32_id, w64_id] at *; omega) | (simp (disch := omega) only [tdiv_nn, tmod_nn, w32_id, w64_id] at *; omega) | (subst_vars; simp [upZ] at *; omega) | (subst_vars; simp [upZ] at *; simp only [w32, w64] at *; omega))) | fail) | fail)))); (first | done | focus (first | (dsimp only; done) | ((try dsimp only); (first | with_reducible assumption | first | omega | (refine ⟨?_, ?_⟩ <;> (first | omega | ((try dsimp only); (first | omega | (simp (disch := omega) only [w32_id, w64_id]; omega) | (simp only [w32, w64]; omega) | (with_reducible refine (and32_le ?_ ?_).1 <;> omega) | (with_reducible refine (and32_le ?_ ?_).2 <;> omega) | (with_reducible refine (mulR ?_ ?_ ?_ ?_).1 <;> omega) | (with_reducible refine (mulR ?_ ?_ ?_ ?_).2 <;> omega) | (simp only [w32, w64] at *; omega) | (simp (disch := omega) only [w32_id, w64_id] at *; omega) | (simp (disch := omega) only [tdiv_nn, tmod_nn, w32_id, w64_id] at *; omega) | (subst_vars; simp [upZ] at *; omega) | (subst_vars; simp [upZ] at *; simp only [w32, w64] at *; omega))) | fail)) | (first | omega | ((try dsimp only); (first | omega | (simp (disch := omega) only [w32_id, w64_id]; omega) | (simp only [w32, w64]; omega) | (with_reducible refine (and32_le ?_ ?_).1 <;> omega) | (with_reducible refine (and32_le ?_ ?_).2 <;> omega) | (with_reducible refine (mulR ?_ ?_ ?_ ?_).1 <;> omega) | (with_reducible refine (mulR ?_ ?_ ?_ ?_).2 <;> omega) | (simp only [w32, w64] at *; omega) | (simp (disch := omega) only [w32_id, w64_id] at *; omega) | (simp (disch := omega) only [tdiv_nn, tmod_nn, w32_id, w64_id] at *; omega) | (subst_vars; simp [upZ] at *; omega) | (subst_vars; simp [upZ] at *; simp only [w32, w64] at *; omega))) | fail) | fail)))); (first | done | focus (first | (dsimp only; done) | ((try dsimp only); ((first | with_reducible assumption | (with_reducible refine OI_m (by assumption) ?_; (first | omega | (simp (disch := omega) only [w32_id]; first | done | omega))) | exact OI_0 (by omega) | fail))))); (first | done | focus (first | (dsimp only; done) | ((try dsimp only); ((first | with_reducible assumption | (with_reducible refine FL_m (by assumption) ?_; (first | omega | (simp (disch := omega) only [w32_id]; first | done | omega))) | exact FL_0 (by omega) | fail))))); (first | done | focus (first | (dsimp only; done) | ((try dsimp only); ((first | with_reducible assumption | (with_reducible refine FL_m (by assumption) ?_; (first | omega | (simp (disch := omega) only [w32_id]; first | done | omega))) | exact FL_0 (by omega) | fail))))); (first | done | focus (first | (dsimp only; done) | ((try dsimp only); ((first | with_reducible assumption | (with_reducible refine FL_m (by assumption) ?_; (first | omega | (simp (disch := omega) only [w32_id]; first | done | omega))) | exact FL_0 (by omega) | fail))))); (first | done | focus (first | (dsimp only; done) | ((try dsimp only); ((first | with_reducible assumption | (with_reducible refine FL_m (by assumption) ?_; (first | omega | (simp (disch := omega) only [w32_id]; first | done | omega))) | exact FL_0 (by omega) | fail))))); (first | done | focus (first | (dsimp only; done) | ((try dsimp only); ((first | with_reducible assumption | (with_reducible refine FL_m (by assumption) ?_; (first | omega | (simp (disch := omega) only [w32_id]; first | done | omega))) | exact FL_0 (by omega) | fail)))))); (first | omega | ((try dsimp only); (first | omega | (simp (disch := omega) only [w32_id, w64_id]; omega) | (simp only [w32, w64]; omega) | (with_reducible refine (and32_le ?_ ?_).1 <;> omega) | (with_reducible refine (and32_le ?_ ?_).2 <;> omega) | (with_reducible refine (mulR ?_ ?_ ?_ ?_).1 <;> omega) | (with_reducible refine (mulR ?_ ?_ ?_ ?_).2 <;> omega) | (simp only [w32, w64] at *; omega) | (simp (disch := omega) only [w32_id, w64_id] at *; omega) | (simp (disch := omega) only [tdiv_nn, tmod_nn, w32_id, w64_id] at *; omega) | (subst_vars; simp [upZ] at *; omega) | (subst_vars; simp [upZ] at *; simp only [w32, w64] at *; omega))) | fail))
          | with_reducible exact trivial
          | with_reducible assumption
          | (refine Exists.intro _ (And.intro rfl (And.intro rfl ?_)); refine ⟨by assumption, by assumption, ?_⟩; (refine ⟨?_, ?_, ?_, ?_, ?_, ?_, ?_, ?_, trivial⟩; (first | done | focus (first | (dsimp only; done) | ((try dsimp only); (first | omega | with_reducible assumption | with_reducible rfl | (first | omega | ((try dsimp only); (first | omega | (simp (disch := omega) only [w32_id, w64_id]; omega) | (simp only [w32, w64]; omega) | (with_reducible refine (and32_le ?_ ?_).1 <;> omega) | (with_reducible refine (and32_le ?_ ?_).2 <;> omega) | (with_reducible refine (mulR ?_ ?_ ?_ ?_).1 <;> omega) | (with_reducible refine (mulR ?_ ?_ ?_ ?_).2 <;> omega) | (simp only [w32, w64] at *; omega) | (simp (disch := omega) only [w32_id, w64_id] at *; omega) | (simp (disch := omega) only [tdiv_nn, tmod_nn, w32_id, w64_id] at *; omega) | (subst_vars; simp [upZ] at *; omega) | (subst_vars; simp [upZ] at *; simp only [w32, w64] at *; omega))) | fail) | fail)))); (first | done | focus (first | (dsimp only; done) | ((try dsimp only); (first | omega | with_reducible assumption | with_reducible rfl | (first | omega | ((try dsimp only); (first | omega | (simp (disch := omega) only [w32_id, w64_id]; omega) | (simp only [w32, w64]; omega) | (with_reducible refine (and32_le ?_ ?_).1 <;> omega) | (with_reducible refine (and32_le ?_ ?_).2 <;> omega) | (with_reducible refine (mulR ?_ ?_ ?_ ?_).1 <;> omega) | (with_reducible refine (mulR ?_ ?_ ?_ ?_).2 <;> omega) | (simp only [w32, w64] at *; omega) | (simp (disch := omega) only [w32_id, w64_id] at *; omega) | (simp (disch := omega) only [tdiv_nn, tmod_nn, w32_id, w64_id] at *; omega) | (subst_vars; simp [upZ] at *; omega) | (subst_vars; simp [upZ] at *; simp only [w32, w64] at *; omega))) | fail) | fail)))); (first | done | focus (first | (dsimp only; done) | ((try dsimp only); ((first | with_reducible assumption | (with_reducible refine OI_m (by assumption) ?_; (first | omega | (simp (disch := omega) only [w32_id]; first | done | omega))) | exact OI_0 (by omega) | fail))))); (first | done | focus (first | (dsimp only; done) | ((try dsimp only); ((first | with_reducible assumption | (with_reducible refine FL_m (by assumption) ?_; (first | omega | (simp (disch := omega) only [w32_id]; first | done | omega))) | exact FL_0 (by omega) | fail))))); (first | done | focus (first | (dsimp only; done) | ((try dsimp only); ((first | with_reducible assumption | (with_reducible refine FL_m (by assumption) ?_; (first | omega | (simp (disch := omega) only [w32_id]; first | done | omega))) | exact FL_0 (by omega) | fail))))); (first | done | focus (first | (dsimp only; done) | ((try dsimp only); ((first | with_reducible assumption | (with_reducible refine FL_m (by assumption) ?_; (first | omega | (simp (disch := omega) only [w32_id]; first | done | omega))) | exact FL_0 (by omega) | fail))))); (first | done | focus (first | (dsimp only; done) | ((try dsimp only); ((first | with_reducible assumption | (with_reducible refine FL_m (by assumption) ?_; (first | omega | (simp (disch := omega) only [w32_id]; first | done | omega))) | exact FL_0 (by omega) | fail))))); (first | done | focus (first | (dsimp only; done) | ((try dsimp only); ((first | with_reducible assumption | (with_reducible refine FL_m (by assumption) ?_; (first | omega | (simp (disch := omega) only [w32_id]; first | done | omega))) | exact FL_0 (by omega) | fail)))))))
          | omega
          | (dsimp only; omega)
          | decide
          | (show (0 : Int) < _; omega)
          | (show (0 : Int) < _; simp only [w64] at *; omega)
          | (simp only [w32, w64] at *; omega)
          | (first | omega | ((try dsimp only); (first | omega | (simp (disch := omega) only [w32_id, w64_id]; omega) | (simp only [w32, w64]; omega) | (with_reducible refine (and32_le ?_ ?_).1 <;> omega) | (with_reducible refine (and32_le ?_ ?_).2 <;> omega) | (with_reducible refine (mulR ?_ ?_ ?_ ?_).1 <;> omega) | (with_reducible refine (mulR ?_ ?_ ?_ ?_).2 <;> omega) | (simp only [w32, w64] at *; omega) | (simp (disch := omega) only [w32_id, w64_id] at *; omega) | (simp (disch := omega) only [tdiv_nn, tmod_nn, w32_id, w64_id] at *; omega) | (subst_vars; simp [upZ] at *; omega) | (subst_vars; simp [upZ] at *; simp only [w32, w64] at *; omega))) | fail)
          | ((with_reducible show swT _ _ _ _); exact trivial)
          | rfl
          | skip
  refine wq_run hG n R0 [12] 900 _ _ _ _ ?_
  repeat' (first
      | with_reducible rfl
      | refine And.intro ?_ ?_
      | with_reducible exact True.intro
      | ((with_reducible show _ = true); rfl)
      | ((with_reducible show recvG _ _); rfl)
      | ((with_reducible show CI _); assumption)
      | (fail_if_success (first | (with_reducible show _ ≤ _) | (with_reducible show _ = _) | (with_reducible show _ ∨ _) | (with_reducible show _ < _))
         first
         | (refine ld_bnd (by assumption) rfl ?_; intro _ _ _ hld; (try dsimp only at hld); (try simp only [Nat.reduceAdd] at hld))
         | (refine st_k (by assumption) (by assumption) (by first | exact Or.inl (by decide) | exact Or.inr (by decide)) (fun lo hi hb => by first | (cases hb; done) | (cases hb; constructor <;> (first | omega | ((try dsimp only); (first | omega | (simp (disch := omega) only [w32_id, w64_id]; omega) | (simp only [w32, w64]; omega) | (with_reducible refine (and32_le ?_ ?_).1 <;> omega) | (with_reducible refine (and32_le ?_ ?_).2 <;> omega) | (with_reducible refine (mulR ?_ ?_ ?_ ?_).1 <;> omega) | (with_reducible refine (mulR ?_ ?_ ?_ ?_).2 <;> omega) | (simp only [w32, w64] at *; omega) | (simp (disch := omega) only [w32_id, w64_id] at *; omega) | (simp (disch := omega) only [tdiv_nn, tmod_nn, w32_id, w64_id] at *; omega) | (subst_vars; simp [upZ] at *; omega) | (subst_vars; simp [upZ] at *; simp only [w32, w64] at *; omega))) | fail))) ?_; intro Z' _ hkk; intro hup; (try dsimp only at hup); (first | have := (congrFun (congrFun hup 8) 0).trans (up_ne (by decide)) | have := (congrFun (congrFun hup 8) 0).trans (up_nk (by decide)) | skip); (first | have := (congrFun (congrFun hup 8) 1).trans (up_ne (by decide)) | have := (congrFun (congrFun hup 8) 1).trans (up_nk (by decide)) | skip); (first | have fl10 := FL_up hup fl10 (by first | rfl | omega) (by omega) | have fl10 := FL_o (up_o hup (by decide)) fl10 | skip); (first | have fl11 := FL_up hup fl11 (by first | rfl | omega) (by omega) | have fl11 := FL_o (up_o hup (by decide)) fl11 | skip); (first | have fl12 := FL_up hup fl12 (by first | rfl | omega) (by omega) | have fl12 := FL_o (up_o hup (by decide)) fl12 | skip); (first | have fl13 := FL_up hup fl13 (by first | rfl | omega) (by omega) | have fl13 := FL_o (up_o hup (by decide)) fl13 | skip); (first | have fl14 := FL_up hup fl14 (by first | rfl | omega) (by omega) | have fl14 := FL_o (up_o hup (by decide)) fl14 | skip); (first | have oi := OI_up hup oi (by omega) (by omega) | have oi := OI_o (up_o hup (by decide)) oi | skip))
         | (refine st_k (by assumption) (by assumption) (by first | exact Or.inl (by decide) | exact Or.inr (by decide)) (fun lo hi hb => ?_) ?_; (cases hb; refine And.intro ?_ ?_))
         | refine st_same ?_
         | (intro (r : Option PV) σ' hq
            first
            | (obtain ⟨rfl, x, rfl, hp⟩ := hq; (try replace hp : _ ∧ _ := hp); (try dsimp only at hp))
            | (obtain ⟨Z', (o : Nat), rfl, rfl, hI2, hk2, ⟨⟨hp, rfl⟩ | ⟨hp, rfl⟩, -⟩⟩ := hq <;> ((first | have hk3 := kp_to (by assumption) (by rfl) hk2 | have hk3 := ks_to (by assumption) (by rfl) hk2); (first | have fl10 := FL_o (kp_av (o := 10) hk2 (by rfl) (by decide)) fl10 | have fl10 := FL_o (ks_av (o := 10) hk2 (by rfl)) fl10 | skip); (first | have fl11 := FL_o (kp_av (o := 11) hk2 (by rfl) (by decide)) fl11 | have fl11 := FL_o (ks_av (o := 11) hk2 (by rfl)) fl11 | skip); (first | have fl12 := FL_o (kp_av (o := 12) hk2 (by rfl) (by decide)) fl12 | have fl12 := FL_o (ks_av (o := 12) hk2 (by rfl)) fl12 | skip); (first | have fl13 := FL_o (kp_av (o := 13) hk2 (by rfl) (by decide)) fl13 | have fl13 := FL_o (ks_av (o := 13) hk2 (by rfl)) fl13 | skip); (first | have fl14 := FL_o (kp_av (o := 14) hk2 (by rfl) (by decide)) fl14 | have fl14 := FL_o (ks_av (o := 14) hk2 (by rfl)) fl14 | skip); clear hk2))
            | (obtain ⟨Z', x, rfl, rfl, hI2, hk2, hp⟩ := hq; (try replace hp : _ ∧ _ := hp); (try dsimp only at hp); (first | have hk3 := kp_to (by assumption) (by rfl) hk2 | have hk3 := ks_to (by assumption) (by rfl) hk2); (first | have fl10 := FL_o (kp_av (o := 10) hk2 (by rfl) (by decide)) fl10 | have fl10 := FL_o (ks_av (o := 10) hk2 (by rfl)) fl10 | skip); (first | have fl11 := FL_o (kp_av (o := 11) hk2 (by rfl) (by decide)) fl11 | have fl11 := FL_o (ks_av (o := 11) hk2 (by rfl)) fl11 | skip); (first | have fl12 := FL_o (kp_av (o := 12) hk2 (by rfl) (by decide)) fl12 | have fl12 := FL_o (ks_av (o := 12) hk2 (by rfl)) fl12 | skip); (first | have fl13 := FL_o (kp_av (o := 13) hk2 (by rfl) (by decide)) fl13 | have fl13 := FL_o (ks_av (o := 13) hk2 (by rfl)) fl13 | skip); (first | have fl14 := FL_o (kp_av (o := 14) hk2 (by rfl) (by decide)) fl14 | have fl14 := FL_o (ks_av (o := 14) hk2 (by rfl)) fl14 | skip); clear hk2)
            | (obtain ⟨Z', rfl, rfl, hI2, hk2, hp⟩ := hq; (try replace hp : _ ∧ _ := hp); (try dsimp only at hp); (first | have hk3 := kp_to (by assumption) (by rfl) hk2 | have hk3 := ks_to (by assumption) (by rfl) hk2); (first | have fl10 := FL_o (kp_av (o := 10) hk2 (by rfl) (by decide)) fl10 | have fl10 := FL_o (ks_av (o := 10) hk2 (by rfl)) fl10 | skip); (first | have fl11 := FL_o (kp_av (o := 11) hk2 (by rfl) (by decide)) fl11 | have fl11 := FL_o (ks_av (o := 11) hk2 (by rfl)) fl11 | skip); (first | have fl12 := FL_o (kp_av (o := 12) hk2 (by rfl) (by decide)) fl12 | have fl12 := FL_o (ks_av (o := 12) hk2 (by rfl)) fl12 | skip); (first | have fl13 := FL_o (kp_av (o := 13) hk2 (by rfl) (by decide)) fl13 | have fl13 := FL_o (ks_av (o := 13) hk2 (by rfl)) fl13 | skip); (first | have fl14 := FL_o (kp_av (o := 14) hk2 (by rfl) (by decide)) fl14 | have fl14 := FL_o (ks_av (o := 14) hk2 (by rfl)) fl14 | skip); clear hk2)
            | (obtain ⟨rfl, rfl⟩ := hq)
            | (obtain ⟨Z', x, rfl, rfl, hI2, hk2⟩ := hq; have hkn := keeps_nil hk2; clear hk2; subst hkn)
            | (obtain ⟨Z', x, rfl, rfl, hI2, hk2⟩ := hq; (first | have hk3 := kp_to (by assumption) (by rfl) hk2 | have hk3 := ks_to (by assumption) (by rfl) hk2); (first | have fl10 := FL_o (kp_av (o := 10) hk2 (by rfl) (by decide)) fl10 | have fl10 := FL_o (ks_av (o := 10) hk2 (by rfl)) fl10 | skip); (first | have fl11 := FL_o (kp_av (o := 11) hk2 (by rfl) (by decide)) fl11 | have fl11 := FL_o (ks_av (o := 11) hk2 (by rfl)) fl11 | skip); (first | have fl12 := FL_o (kp_av (o := 12) hk2 (by rfl) (by decide)) fl12 | have fl12 := FL_o (ks_av (o := 12) hk2 (by rfl)) fl12 | skip); (first | have fl13 := FL_o (kp_av (o := 13) hk2 (by rfl) (by decide)) fl13 | have fl13 := FL_o (ks_av (o := 13) hk2 (by rfl)) fl13 | skip); (first | have fl14 := FL_o (kp_av (o := 14) hk2 (by rfl) (by decide)) fl14 | have fl14 := FL_o (ks_av (o := 14) hk2 (by rfl)) fl14 | skip); clear hk2)
            | (rcases hq with ⟨Z', rfl, rfl, hI2, hk2⟩ | ⟨Z', rfl, rfl, hI2, hk2⟩ <;> ((first | have hk3 := kp_to (by assumption) (by rfl) hk2 | have hk3 := ks_to (by assumption) (by rfl) hk2); (first | have fl10 := FL_o (kp_av (o := 10) hk2 (by rfl) (by decide)) fl10 | have fl10 := FL_o (ks_av (o := 10) hk2 (by rfl)) fl10 | skip); (first | have fl11 := FL_o (kp_av (o := 11) hk2 (by rfl) (by decide)) fl11 | have fl11 := FL_o (ks_av (o := 11) hk2 (by rfl)) fl11 | skip); (first | have fl12 := FL_o (kp_av (o := 12) hk2 (by rfl) (by decide)) fl12 | have fl12 := FL_o (ks_av (o := 12) hk2 (by rfl)) fl12 | skip); (first | have fl13 := FL_o (kp_av (o := 13) hk2 (by rfl) (by decide)) fl13 | have fl13 := FL_o (ks_av (o := 13) hk2 (by rfl)) fl13 | skip); (first | have fl14 := FL_o (kp_av (o := 14) hk2 (by rfl) (by decide)) fl14 | have fl14 := FL_o (ks_av (o := 14) hk2 (by rfl)) fl14 | skip); clear hk2))
            | (obtain ⟨Z', rfl, rfl, hI2, hk2⟩ := hq; (first | have hk3 := kp_to (by assumption) (by rfl) hk2 | have hk3 := ks_to (by assumption) (by rfl) hk2); (first | have fl10 := FL_o (kp_av (o := 10) hk2 (by rfl) (by decide)) fl10 | have fl10 := FL_o (ks_av (o := 10) hk2 (by rfl)) fl10 | skip); (first | have fl11 := FL_o (kp_av (o := 11) hk2 (by rfl) (by decide)) fl11 | have fl11 := FL_o (ks_av (o := 11) hk2 (by rfl)) fl11 | skip); (first | have fl12 := FL_o (kp_av (o := 12) hk2 (by rfl) (by decide)) fl12 | have fl12 := FL_o (ks_av (o := 12) hk2 (by rfl)) fl12 | skip); (first | have fl13 := FL_o (kp_av (o := 13) hk2 (by rfl) (by decide)) fl13 | have fl13 := FL_o (ks_av (o := 13) hk2 (by rfl)) fl13 | skip); (first | have fl14 := FL_o (kp_av (o := 14) hk2 (by rfl) (by decide)) fl14 | have fl14 := FL_o (ks_av (o := 14) hk2 (by rfl)) fl14 | skip); clear hk2))
         | (intro hc; (try simp only [cmp3_c] at hc); simp only [cmpI] at hc)
         | (show CI _; assumption)
         | intro (_ : Int)
         | intro (Z' : ZT)
         | intro (_ : CI _)
         | (intro (hkk : kp _ _ _))
         | intro (_ : _ ≤ _)
         | (intro (hup : _ = upZ _ _ _ _); (try dsimp only at hup); (first | have := (congrFun (congrFun hup 8) 0).trans (up_ne (by decide)) | have := (congrFun (congrFun hup 8) 0).trans (up_nk (by decide)) | skip); (first | have := (congrFun (congrFun hup 8) 1).trans (up_ne (by decide)) | have := (congrFun (congrFun hup 8) 1).trans (up_nk (by decide)) | skip); (first | have fl10 := FL_up hup fl10 (by first | rfl | omega) (by omega) | have fl10 := FL_o (up_o hup (by decide)) fl10 | skip); (first | have fl11 := FL_up hup fl11 (by first | rfl | omega) (by omega) | have fl11 := FL_o (up_o hup (by decide)) fl11 | skip); (first | have fl12 := FL_up hup fl12 (by first | rfl | omega) (by omega) | have fl12 := FL_o (up_o hup (by decide)) fl12 | skip); (first | have fl13 := FL_up hup fl13 (by first | rfl | omega) (by omega) | have fl13 := FL_o (up_o hup (by decide)) fl13 | skip); (first | have fl14 := FL_up hup fl14 (by first | rfl | omega) (by omega) | have fl14 := FL_o (up_o hup (by decide)) fl14 | skip); (first | have oi := OI_up hup oi (by omega) (by omega) | have oi := OI_o (up_o hup (by decide)) oi | skip))
         | (intro (hld : _ = _); (try dsimp only at hld); (try simp only [Nat.reduceAdd] at hld))
         | intro (_ : _ < _)
         | intro (_ : _ ≠ _)
         | intro (_ : _ ∨ _)))
  all_goals (have lp12 := loop 1000000)
  all_goals first
    | refine hG.2 12 _ [(0, vr 8), (1, vi _)] _ _ rfl ?_
    | skip
  all_goals first
    | with_reducible rfl
    | ((with_reducible show _ = _); rfl)
    | ((with_reducible show recvG _ _); rfl)
    | ((with_reducible show G 12 _ _ _); refine lp12 _ _ ?_ ?_ ?_ ?_; assumption; assumption; (refine ⟨?_, ?_, ?_, ?_, ?_, ?_, ?_, ?_, ?_, trivial⟩; (first | done | focus (first | (dsimp only; done) | ((try dsimp only); (first | omega | (refine ⟨?_, ?_⟩ <;> (first | omega | ((try dsimp only); (first | omega | (simp (disch := omega) only [w32_id, w64_id]; omega) | (simp only [w32, w64]; omega) | (with_reducible refine (and32_le ?_ ?_).1 <;> omega) | (with_reducible refine (and32_le ?_ ?_).2 <;> omega) | (with_reducible refine (mulR ?_ ?_ ?_ ?_).1 <;> omega) | (with_reducible refine (mulR ?_ ?_ ?_ ?_).2 <;> omega) | (simp only [w32, w64] at *; omega) | (simp (disch := omega) only [w32_id, w64_id] at *; omega) | (simp (disch := omega) only [tdiv_nn, tmod_nn, w32_id, w64_id] at *; omega) | (subst_vars; simp [upZ] at *; omega) | (subst_vars; simp [upZ] at *; simp only [w32, w64] at *; omega))) | fail)) | (first | omega | ((try dsimp only); (first | omega | (simp (disch := omega) only [w32_id, w64_id]; omega) | (simp only [w32, w64]; omega) | (with_reducible refine (and32_le ?_ ?_).1 <;> omega) | (with_reducible refine (and32_le ?_ ?_).2 <;> omega) | (with_reducible refine (mulR ?_ ?_ ?_ ?_).1 <;> omega) | (with_reducible refine (mulR ?_ ?_ ?_ ?_).2 <;> omega) | (simp only [w32, w64] at *; omega) | (simp (disch := omega) only [w32_id, w64_id] at *; omega) | (simp (disch := omega) only [tdiv_nn, tmod_nn, w32_id, w64_id] at *; omega) | (subst_vars; simp [upZ] at *; omega) | (subst_vars; simp [upZ] at *; simp only [w32, w64] at *; omega))) | fail) | fail)))); (first | done | focus (first | (dsimp only; done) | ((try dsimp only); (first | with_reducible assumption | first | omega | (refine ⟨?_, ?_⟩ <;> (first | omega | ((try dsimp only); (first | omega | (simp (disch := omega) only [w32_id, w64_id]; omega) | (simp only [w32, w64]; omega) | (with_reducible refine (and32_le ?_ ?_).1 <;> omega) | (with_reducible refine (and32_le ?_ ?_).2 <;> omega) | (with_reducible refine (mulR ?_ ?_ ?_ ?_).1 <;> omega) | (with_reducible refine (mulR ?_ ?_ ?_ ?_).2 <;> omega) | (simp only [w32, w64] at *; omega) | (simp (disch := omega) only [w32_id, w64_id] at *; omega) | (simp (disch := omega) only [tdiv_nn, tmod_nn, w32_id, w64_id] at *; omega) | (subst_vars; simp [upZ] at *; omega) | (subst_vars; simp [upZ] at *; simp only [w32, w64] at *; omega))) | fail)) | (first | omega | ((try dsimp only); (first | omega | (simp (disch := omega) only [w32_id, w64_id]; omega) | (simp only [w32, w64]; omega) | (with_reducible refine (and32_le ?_ ?_).1 <;> omega) | (with_reducible refine (and32_le ?_ ?_).2 <;> omega) | (with_reducible refine (mulR ?_ ?_ ?_ ?_).1 <;> omega) | (with_reducible refine (mulR ?_ ?_ ?_ ?_).2 <;> omega) | (simp only [w32, w64] at *; omega) | (simp (disch := omega) only [w32_id, w64_id] at *; omega) | (simp (disch := omega) only [tdiv_nn, tmod_nn, w32_id, w64_id] at *; omega) | (subst_vars; simp [upZ] at *; omega) | (subst_vars; simp [upZ] at *; simp only [w32, w64] at *; omega))) | fail) | fail)))); (first | done | focus (first | (dsimp only; done) | ((try dsimp only); (first | with_reducible assumption | first | omega | (refine ⟨?_, ?_⟩ <;> (first | omega | ((try dsimp only); (first | omega | (simp (disch := omega) only [w32_id, w64_id]; omega) | (simp only [w32, w64]; omega) | (with_reducible refine (and32_le ?_ ?_).1 <;> omega) | (with_reducible refine (and32_le ?_ ?_).2 <;> omega) | (with_reducible refine (mulR ?_ ?_ ?_ ?_).1 <;> omega) | (with_reducible refine (mulR ?_ ?_ ?_ ?_).2 <;> omega) | (simp only [w32, w64] at *; omega) | (simp (disch := omega) only [w32_id, w64_id] at *; omega) | (simp (disch := omega) only [tdiv_nn, tmod_nn, w32_id, w64_id] at *; omega) | (subst_vars; simp [upZ] at *; omega) | (subst_vars; simp [upZ] at *; simp only [w32, w64] at *; omega))) | fail)) | (first | omega | ((try dsimp only); (first | omega | (simp (disch := omega) only [w32_id, w64_id]; omega) | (simp only [w32, w64]; omega) | (with_reducible refine (and32_le ?_ ?_).1 <;> omega) | (with_reducible refine (and32_le ?_ ?_).2 <;> omega) | (with_reducible refine (mulR ?_ ?_ ?_ ?_).1 <;> omega) | (with_reducible refine (mulR ?_ ?_ ?_ ?_).2 <;> omega) | (simp only [w32, w64] at *; omega) | (simp (disch := omega) only [w32_id, w64_id] at *; omega) | (simp (disch := omega) only [tdiv_nn, tmod_nn, w32_id, w64_id] at *; omega) | (subst_vars; simp [upZ] at *; omega) | (subst_vars; simp [upZ] at *; simp only [w32, w64] at *; omega))) | fail) | fail)))); (first | done | focus (first | (dsimp only; done) | ((try dsimp only); ((first | with_reducible assumption | (with_reducible refine OI_m (by assumption) ?_; (first | omega | (simp (disch := omega) only [w32_id]; first | done | omega))) | exact OI_0 (by omega) | fail))))); (first | done | focus (first | (dsimp only; done) | ((try dsimp only); ((first | with_reducible assumption | (with_reducible refine FL_m (by assumption) ?_; (first | omega | (simp (disch := omega) only [w32_id]; first | done | omega))) | exact FL_0 (by omega) | fail))))); (first | done | focus (first | (dsimp only; done) | ((try dsimp only); ((first | with_reducible assumption | (with_reducible refine FL_m (by assumption) ?_; (first | omega | (simp (disch := omega) only [w32_id]; first | done | omega))) | exact FL_0 (by omega) | fail))))); (first | done | focus (first | (dsimp only; done) | ((try dsimp only); ((first | with_reducible assumption | (with_reducible refine FL_m (by assumption) ?_; (first | omega | (simp (disch := omega) only [w32_id]; first | done | omega))) | exact FL_0 (by omega) | fail))))); (first | done | focus (first | (dsimp only; done) | ((try dsimp only); ((first | with_reducible assumption | (with_reducible refine FL_m (by assumption) ?_; (first | omega | (simp (disch := omega) only [w32_id]; first | done | omega))) | exact FL_0 (by omega) | fail))))); (first | done | focus (first | (dsimp only; done) | ((try dsimp only); ((first | with_reducible assumption | (with_reducible refine FL_m (by assumption) ?_; (first | omega | (simp (disch := omega) only [w32_id]; first | done | omega))) | exact FL_0 (by omega) | fail)))))); (first | omega | ((try dsimp only); (first | omega | (simp (disch := omega) only [w32_id, w64_id]; omega) | (simp only [w32, w64]; omega) | (with_reducible refine (and32_le ?_ ?_).1 <;> omega) | (with_reducible refine (and32_le ?_ ?_).2 <;> omega) | (with_reducible refine (mulR ?_ ?_ ?_ ?_).1 <;> omega) | (with_reducible refine (mulR ?_ ?_ ?_ ?_).2 <;> omega) | (simp only [w32, w64] at *; omega) | (simp (disch := omega) only [w32_id, w64_id] at *; omega) | (simp (disch := omega) only [tdiv_nn, tmod_nn, w32_id, w64_id] at *; omega) | (subst_vars; simp [upZ] at *; omega) | (subst_vars; simp [upZ] at *; simp only [w32, w64] at *; omega))) | fail))
    | with_reducible exact trivial
    | with_reducible assumption
    | (refine Exists.intro _ (And.intro rfl (And.intro rfl ?_)); refine ⟨by assumption, by assumption, ?_⟩; (refine ⟨?_, ?_, ?_, ?_, ?_, ?_, ?_, ?_, trivial⟩; (first | done | focus (first | (dsimp only; done) | ((try dsimp only); (first | omega | with_reducible assumption | with_reducible rfl | (first | omega | ((try dsimp only); (first | omega | (simp (disch := omega) only [w32_id, w64_id]; omega) | (simp only [w32, w64]; omega) | (with_reducible refine (and32_le ?_ ?_).1 <;> omega) | (with_reducible refine (and32_le ?_ ?_).2 <;> omega) | (with_reducible refine (mulR ?_ ?_ ?_ ?_).1 <;> omega) | (with_reducible refine (mulR ?_ ?_ ?_ ?_).2 <;> omega) | (simp only [w32, w64] at *; omega) | (simp (disch := omega) only [w32_id, w64_id] at *; omega) | (simp (disch := omega) only [tdiv_nn, tmod_nn, w32_id, w64_id] at *; omega) | (subst_vars; simp [upZ] at *; omega) | (subst_vars; simp [upZ] at *; simp only [w32, w64] at *; omega))) | fail) | fail)))); (first | done | focus (first | (dsimp only; done) | ((try dsimp only); (first | omega | with_reducible assumption | with_reducible rfl | (first | omega | ((try dsimp only); (first | omega | (simp (disch := omega) only [w32_id, w64_id]; omega) | (simp only [w32, w64]; omega) | (with_reducible refine (and32_le ?_ ?_).1 <;> omega) | (with_reducible refine (and32_le ?_ ?_).2 <;> omega) | (with_reducible refine (mulR ?_ ?_ ?_ ?_).1 <;> omega) | (with_reducible refine (mulR ?_ ?_ ?_ ?_).2 <;> omega) | (simp only [w32, w64] at *; omega) | (simp (disch := omega) only [w32_id, w64_id] at *; omega) | (simp (disch := omega) only [tdiv_nn, tmod_nn, w32_id, w64_id] at *; omega) | (subst_vars; simp [upZ] at *; omega) | (subst_vars; simp [upZ] at *; simp only [w32, w64] at *; omega))) | fail) | fail)))); (first | done | focus (first | (dsimp only; done) | ((try dsimp only); ((first | with_reducible assumption | (with_reducible refine OI_m (by assumption) ?_; (first | omega | (simp (disch := omega) only [w32_id]; first | done | omega))) | exact OI_0 (by omega) | fail))))); (first | done | focus (first | (dsimp only; done) | ((try dsimp only); ((first | with_reducible assumption | (with_reducible refine FL_m (by assumption) ?_; (first | omega | (simp (disch := omega) only [w32_id]; first | done | omega))) | exact FL_0 (by omega) | fail))))); (first | done | focus (first | (dsimp only; done) | ((try dsimp only); ((first | with_reducible assumption | (with_reducible refine FL_m (by assumption) ?_; (first | omega | (simp (disch := omega) only [w32_id]; first | done | omega))) | exact FL_0 (by omega) | fail))))); (first | done | focus (first | (dsimp only; done) | ((try dsimp only); ((first | with_reducible assumption | (with_reducible refine FL_m (by assumption) ?_; (first | omega | (simp (disch := omega) only [w32_id]; first | done | omega))) | exact FL_0 (by omega) | fail))))); (first | done | focus (first | (dsimp only; done) | ((try dsimp only); ((first | with_reducible assumption | (with_reducible refine FL_m (by assumption) ?_; (first | omega | (simp (disch := omega) only [w32_id]; first | done | omega))) | exact FL_0 (by omega) | fail))))); (first | done | focus (first | (dsimp only; done) | ((try dsimp only); ((first | with_reducible assumption | (with_reducible refine FL_m (by assumption) ?_; (first | omega | (simp (disch := omega) only [w32_id]; first | done | omega))) | exact FL_0 (by omega) | fail)))))))
    | omega
    | (dsimp only; omega)
    | decide
    | (show (0 : Int) < _; omega)
    | (show (0 : Int) < _; simp only [w64] at *; omega)
    | (simp only [w32, w64] at *; omega)
    | (first | omega | ((try dsimp only); (first | omega | (simp (disch := omega) only [w32_id, w64_id]; omega) | (simp only [w32, w64]; omega) | (with_reducible refine (and32_le ?_ ?_).1 <;> omega) | (with_reducible refine (and32_le ?_ ?_).2 <;> omega) | (with_reducible refine (mulR ?_ ?_ ?_ ?_).1 <;> omega) | (with_reducible refine (mulR ?_ ?_ ?_ ?_).2 <;> omega) | (simp only [w32, w64] at *; omega) | (simp (disch := omega) only [w32_id, w64_id] at *; omega) | (simp (disch := omega) only [tdiv_nn, tmod_nn, w32_id, w64_id] at *; omega) | (subst_vars; simp [upZ] at *; omega) | (subst_vars; simp [upZ] at *; simp only [w32, w64] at *; omega))) | fail)
    | ((with_reducible show swT _ _ _ _); exact trivial)
    | rfl
    | skip
def s_X5_closeLineX : Sp := rRV 2 5 (fun as Z => match as with
    | [.inr (.inr a0), .inl a1] => ((a0 = 8)) ∧ ((0 ≤ a1 ∧ a1 ≤ 3)) ∧ (ORD Z 8) ∧ (0 ≤ Z 8 0) ∧ (Z 8 0 ≤ 4) ∧ True
    | _ => False) (fun as => match as with
    | [.inr (.inr a0), .inl a1] => [1008, 9, 10, 12]
    | _ => []) (fun as Z Z' => match as with
    | [.inr (.inr a0), .inl a1] => (Z' 8 0 = Z 8 0 + 1) ∧ (Z' 10 = upZ Z 10 a1.toNat (Z 8 0) 10) ∧ (Z' 12 = upZ Z 12 a1.toNat (Z 8 1 - Z 11 a1.toNat) 12) ∧ (∃ q : Nat, q < 4 ∧ Z 9 q = a1 ∧ (∀ t : Nat, t < 3 → Z' 9 t = if t < q then Z 9 t else Z 9 (t + 1)) ∧ Z' 9 3 = a1) ∧ True
    | _ => False)
set_option maxRecDepth 100000 in
set_option maxHeartbeats 40000000 in
theorem c_X5_closeLineX {l : Launch} {D : va_G} {cA : Nat → ClassId} : PM l D cA yX5_closeLine cX5_closeLine 4 none 0 0 s_X5_closeLineX := by
  refine of_X5_closeLine  (fun as σ hwf hao hpre => ?_)
  obtain ⟨n, Z, R⟩ := σ
  obtain ⟨hR, hI, hpre⟩ := hpre
  obtain rfl : R = R0 := hR
  rcases as with _ | ⟨x | x | a0, _ | ⟨a1 | x | x, _ | ⟨v, t⟩⟩⟩ <;> first | exact (hpre : False).elim | skip
  obtain ⟨k1l, k1u⟩ : okI a1 := hao (vi a1) (by simp)
  obtain ⟨h0, h1, q0, q1, q2, -⟩ := hpre
  have hk : kp ([1008, 9, 10, 12]) Z Z := kp_refl
  refine ⟨Nat.le_of_ble_eq_true rfl, fun G hG => ?_⟩
  clear hao hwf
  (try dsimp only at q0)
  (try dsimp only at q1)
  (try dsimp only at q2)
  obtain rfl := h0
  have loop : ∀ fuel : Nat, (∀ (Z1 : ZT) (v2 : Int) (v3 : Int), CI Z1 → kp ([1008, 9, 10, 12]) Z Z1 → ((0 ≤ v2 ∧ v2 ≤ 4) ∧ (0 ≤ v3 ∧ v3 ≤ 4) ∧ (v2 ≤ v3) ∧ (Z1 8 0 = Z 8 0 + 1) ∧ (Z1 10 = upZ Z 10 a1.toNat (Z 8 0) 10) ∧ (Z1 12 = upZ Z 12 a1.toNat (Z 8 1 - Z 11 a1.toNat) 12) ∧ (∃ q : Nat, q < 4 ∧ Z 9 q = a1 ∧ (∀ t : Nat, t < 4 → Z 9 t = a1 → t = q) ∧ CLI Z Z1 8 q v2 v3) ∧ True) → 5 - v3 ≤ (fuel : Int) → G 41 [(0, vr 8), (1, vi a1), (2, vi v2), (3, vi v3)] [] (n, Z1, R0)) := by
    intro fuel
    induction fuel with
    | zero => exact (by intros; omega)
    | succ fuel ih =>
      have ih41 := ih
      · intro Z1 v2 v3 hI1 hk1 hv hm
        obtain ⟨w0, w1, w2, w3, w4, w5, w6, -⟩ := hv
        clear hk hI
        obtain ⟨q, hq4, hqe, hqu, hcl⟩ := w6
        have e9 : Z1 9 = Z1 9 := rfl
        refine wq_run hG n R0 [41] 900 _ _ _ _ ?_
        repeat' (first
            | with_reducible rfl
            | refine And.intro ?_ ?_
            | with_reducible exact True.intro
            | ((with_reducible show _ = true); rfl)
            | ((with_reducible show recvG _ _); rfl)
            | ((with_reducible show CI _); assumption)
            | (fail_if_success (first | (with_reducible show _ ≤ _) | (with_reducible show _ = _) | (with_reducible show _ ∨ _) | (with_reducible show _ < _))
               first
               | (refine ld_bnd (by assumption) rfl ?_; intro _ _ _ hld; (try dsimp only at hld); (try simp only [Nat.reduceAdd] at hld))
               | (refine st_k (by assumption) (by assumption) (by first | exact Or.inl (by decide) | exact Or.inr (by decide)) (fun lo hi hb => by first | (cases hb; done) | (cases hb; constructor <;> (first | omega | ((try dsimp only); (first | omega | (simp (disch := omega) only [w32_id, w64_id]; omega) | (simp only [w32, w64]; omega) | (with_reducible refine (and32_le ?_ ?_).1 <;> omega) | (with_reducible refine (and32_le ?_ ?_).2 <;> omega) | (with_reducible refine (mulR ?_ ?_ ?_ ?_).1 <;> omega) | (with_reducible refine (mulR ?_ ?_ ?_ ?_).2 <;> omega) | (simp only [w32, w64] at *; omega) | (simp (disch := omega) only [w32_id, w64_id] at *; omega) | (simp (disch := omega) only [tdiv_nn, tmod_nn, w32_id, w64_id] at *; omega) | (subst_vars; simp [upZ] at *; omega) | (subst_vars; simp [upZ] at *; simp only [w32, w64] at *; omega))) | fail))) ?_; intro Z' _ hkk; intro hup; (try dsimp only at hup); (first | have := (congrFun (congrFun hup 8) 0).trans (up_ne (by decide)) | have := (congrFun (congrFun hup 8) 0).trans (up_nk (by decide)) | skip); (first | have := (congrFun (congrFun hup 8) 1).trans (up_ne (by decide)) | have := (congrFun (congrFun hup 8) 1).trans (up_nk (by decide)) | skip); (try have e9 := (up_o hup (by decide)).trans e9); (try have e10 := (up_o hup (by decide)).trans e10); (try have e12 := (up_o hup (by decide)).trans e12); (first | have f9 : _ = upZ _ 9 _ _ 9 := congrFun hup 9 | have f9 := (up_o hup (by decide)).trans f9 | skip); (first | have f10 : _ = upZ _ 10 _ _ 10 := congrFun hup 10 | have f10 := (up_o hup (by decide)).trans f10 | skip); (first | have f12 : _ = upZ _ 12 _ _ 12 := congrFun hup 12 | have f12 := (up_o hup (by decide)).trans f12 | skip); (try have w4 := (up_o hup (by decide)).trans w4); (try have w5 := (up_o hup (by decide)).trans w5))
               | (refine st_k (by assumption) (by assumption) (by first | exact Or.inl (by decide) | exact Or.inr (by decide)) (fun lo hi hb => ?_) ?_; (cases hb; refine And.intro ?_ ?_))
               | refine st_same ?_
               | (intro (r : Option PV) σ' hq
                  first
                  | (obtain ⟨rfl, x, rfl, hp⟩ := hq; (try replace hp : _ ∧ _ := hp); (try dsimp only at hp))
                  | (obtain ⟨Z', (o : Nat), rfl, rfl, hI2, hk2, ⟨⟨hp, rfl⟩ | ⟨hp, rfl⟩, -⟩⟩ := hq <;> ((first | have hk3 := kp_to (by assumption) (by rfl) hk2 | have hk3 := ks_to (by assumption) (by rfl) hk2); (first | have e9 := (kp_av (o := 9) hk2 (by rfl) (by decide)).trans e9 | skip); (first | have e10 := (kp_av (o := 10) hk2 (by rfl) (by decide)).trans e10 | skip); (first | have e12 := (kp_av (o := 12) hk2 (by rfl) (by decide)).trans e12 | skip); clear hk2))
                  | (obtain ⟨Z', x, rfl, rfl, hI2, hk2, hp⟩ := hq; (try replace hp : _ ∧ _ := hp); (try dsimp only at hp); (first | have hk3 := kp_to (by assumption) (by rfl) hk2 | have hk3 := ks_to (by assumption) (by rfl) hk2); (first | have e9 := (kp_av (o := 9) hk2 (by rfl) (by decide)).trans e9 | skip); (first | have e10 := (kp_av (o := 10) hk2 (by rfl) (by decide)).trans e10 | skip); (first | have e12 := (kp_av (o := 12) hk2 (by rfl) (by decide)).trans e12 | skip); clear hk2)
                  | (obtain ⟨Z', rfl, rfl, hI2, hk2, hp⟩ := hq; (try replace hp : _ ∧ _ := hp); (try dsimp only at hp); (first | have hk3 := kp_to (by assumption) (by rfl) hk2 | have hk3 := ks_to (by assumption) (by rfl) hk2); (first | have e9 := (kp_av (o := 9) hk2 (by rfl) (by decide)).trans e9 | skip); (first | have e10 := (kp_av (o := 10) hk2 (by rfl) (by decide)).trans e10 | skip); (first | have e12 := (kp_av (o := 12) hk2 (by rfl) (by decide)).trans e12 | skip); clear hk2)
                  | (obtain ⟨rfl, rfl⟩ := hq)
                  | (obtain ⟨Z', x, rfl, rfl, hI2, hk2⟩ := hq; have hkn := keeps_nil hk2; clear hk2; subst hkn)
                  | (obtain ⟨Z', x, rfl, rfl, hI2, hk2⟩ := hq; (first | have hk3 := kp_to (by assumption) (by rfl) hk2 | have hk3 := ks_to (by assumption) (by rfl) hk2); (first | have e9 := (kp_av (o := 9) hk2 (by rfl) (by decide)).trans e9 | skip); (first | have e10 := (kp_av (o := 10) hk2 (by rfl) (by decide)).trans e10 | skip); (first | have e12 := (kp_av (o := 12) hk2 (by rfl) (by decide)).trans e12 | skip); clear hk2)
                  | (rcases hq with ⟨Z', rfl, rfl, hI2, hk2⟩ | ⟨Z', rfl, rfl, hI2, hk2⟩ <;> ((first | have hk3 := kp_to (by assumption) (by rfl) hk2 | have hk3 := ks_to (by assumption) (by rfl) hk2); (first | have e9 := (kp_av (o := 9) hk2 (by rfl) (by decide)).trans e9 | skip); (first | have e10 := (kp_av (o := 10) hk2 (by rfl) (by decide)).trans e10 | skip); (first | have e12 := (kp_av (o := 12) hk2 (by rfl) (by decide)).trans e12 | skip); clear hk2))
                  | (obtain ⟨Z', rfl, rfl, hI2, hk2⟩ := hq; (first | have hk3 := kp_to (by assumption) (by rfl) hk2 | have hk3 := ks_to (by assumption) (by rfl) hk2); (first | have e9 := (kp_av (o := 9) hk2 (by rfl) (by decide)).trans e9 | skip); (first | have e10 := (kp_av (o := 10) hk2 (by rfl) (by decide)).trans e10 | skip); (first | have e12 := (kp_av (o := 12) hk2 (by rfl) (by decide)).trans e12 | skip); clear hk2))
               | (intro hc; (try simp only [cmp3_c] at hc); simp only [cmpI] at hc)
               | (show CI _; assumption)
               | intro (_ : Int)
               | intro (Z' : ZT)
               | intro (_ : CI _)
               | (intro (hkk : kp _ _ _))
               | intro (_ : _ ≤ _)
               | (intro (hup : _ = upZ _ _ _ _); (try dsimp only at hup); (first | have := (congrFun (congrFun hup 8) 0).trans (up_ne (by decide)) | have := (congrFun (congrFun hup 8) 0).trans (up_nk (by decide)) | skip); (first | have := (congrFun (congrFun hup 8) 1).trans (up_ne (by decide)) | have := (congrFun (congrFun hup 8) 1).trans (up_nk (by decide)) | skip); (try have e9 := (up_o hup (by decide)).trans e9); (try have e10 := (up_o hup (by decide)).trans e10); (try have e12 := (up_o hup (by decide)).trans e12); (first | have f9 : _ = upZ _ 9 _ _ 9 := congrFun hup 9 | have f9 := (up_o hup (by decide)).trans f9 | skip); (first | have f10 : _ = upZ _ 10 _ _ 10 := congrFun hup 10 | have f10 := (up_o hup (by decide)).trans f10 | skip); (first | have f12 : _ = upZ _ 12 _ _ 12 := congrFun hup 12 | have f12 := (up_o hup (by decide)).trans f12 | skip); (try have w4 := (up_o hup (by decide)).trans w4); (try have w5 := (up_o hup (by decide)).trans w5))
               | (intro (hld : _ = _); (try dsimp only at hld); (try simp only [Nat.reduceAdd] at hld))
               | intro (_ : _ < _)
               | intro (_ : _ ≠ _)
               | intro (_ : _ ∨ _)))
        all_goals first
          | refine hG.2 41 _ [(0, vr 8), (1, vi a1), (2, vi _), (3, vi _)] _ _ rfl ?_
          | skip
        all_goals first
          | with_reducible rfl
          | ((with_reducible show _ = _); rfl)
          | ((with_reducible show recvG _ _); rfl)
          | ((with_reducible show G 41 _ _ _); refine ih41 _ _ _ ?_ ?_ ?_ ?_; assumption; assumption; (refine ⟨?_, ?_, ?_, ?_, ?_, ?_, ?_, trivial⟩; (first | done | focus (first | (dsimp only; done) | ((try dsimp only); (first | omega | (refine ⟨?_, ?_⟩ <;> (first | omega | ((try dsimp only); (first | omega | (simp (disch := omega) only [w32_id, w64_id]; omega) | (simp only [w32, w64]; omega) | (with_reducible refine (and32_le ?_ ?_).1 <;> omega) | (with_reducible refine (and32_le ?_ ?_).2 <;> omega) | (with_reducible refine (mulR ?_ ?_ ?_ ?_).1 <;> omega) | (with_reducible refine (mulR ?_ ?_ ?_ ?_).2 <;> omega) | (simp only [w32, w64] at *; omega) | (simp (disch := omega) only [w32_id, w64_id] at *; omega) | (simp (disch := omega) only [tdiv_nn, tmod_nn, w32_id, w64_id] at *; omega) | (subst_vars; simp [upZ] at *; omega) | (subst_vars; simp [upZ] at *; simp only [w32, w64] at *; omega))) | fail)) | (first | omega | ((try dsimp only); (first | omega | (simp (disch := omega) only [w32_id, w64_id]; omega) | (simp only [w32, w64]; omega) | (with_reducible refine (and32_le ?_ ?_).1 <;> omega) | (with_reducible refine (and32_le ?_ ?_).2 <;> omega) | (with_reducible refine (mulR ?_ ?_ ?_ ?_).1 <;> omega) | (with_reducible refine (mulR ?_ ?_ ?_ ?_).2 <;> omega) | (simp only [w32, w64] at *; omega) | (simp (disch := omega) only [w32_id, w64_id] at *; omega) | (simp (disch := omega) only [tdiv_nn, tmod_nn, w32_id, w64_id] at *; omega) | (subst_vars; simp [upZ] at *; omega) | (subst_vars; simp [upZ] at *; simp only [w32, w64] at *; omega))) | fail) | fail)))); (first | done | focus (first | (dsimp only; done) | ((try dsimp only); (first | omega | (refine ⟨?_, ?_⟩ <;> (first | omega | ((try dsimp only); (first | omega | (simp (disch := omega) only [w32_id, w64_id]; omega) | (simp only [w32, w64]; omega) | (with_reducible refine (and32_le ?_ ?_).1 <;> omega) | (with_reducible refine (and32_le ?_ ?_).2 <;> omega) | (with_reducible refine (mulR ?_ ?_ ?_ ?_).1 <;> omega) | (with_reducible refine (mulR ?_ ?_ ?_ ?_).2 <;> omega) | (simp only [w32, w64] at *; omega) | (simp (disch := omega) only [w32_id, w64_id] at *; omega) | (simp (disch := omega) only [tdiv_nn, tmod_nn, w32_id, w64_id] at *; omega) | (subst_vars; simp [upZ] at *; omega) | (subst_vars; simp [upZ] at *; simp only [w32, w64] at *; omega))) | fail)) | (first | omega | ((try dsimp only); (first | omega | (simp (disch := omega) only [w32_id, w64_id]; omega) | (simp only [w32, w64]; omega) | (with_reducible refine (and32_le ?_ ?_).1 <;> omega) | (with_reducible refine (and32_le ?_ ?_).2 <;> omega) | (with_reducible refine (mulR ?_ ?_ ?_ ?_).1 <;> omega) | (with_reducible refine (mulR ?_ ?_ ?_ ?_).2 <;> omega) | (simp only [w32, w64] at *; omega) | (simp (disch := omega) only [w32_id, w64_id] at *; omega) | (simp (disch := omega) only [tdiv_nn, tmod_nn, w32_id, w64_id] at *; omega) | (subst_vars; simp [upZ] at *; omega) | (subst_vars; simp [upZ] at *; simp only [w32, w64] at *; omega))) | fail) | fail)))); (first | done | focus (first | (dsimp only; done) | ((try dsimp only); (first | with_reducible assumption | first | omega | (refine ⟨?_, ?_⟩ <;> (first | omega | ((try dsimp only); (first | omega | (simp (disch := omega) only [w32_id, w64_id]; omega) | (simp only [w32, w64]; omega) | (with_reducible refine (and32_le ?_ ?_).1 <;> omega) | (with_reducible refine (and32_le ?_ ?_).2 <;> omega) | (with_reducible refine (mulR ?_ ?_ ?_ ?_).1 <;> omega) | (with_reducible refine (mulR ?_ ?_ ?_ ?_).2 <;> omega) | (simp only [w32, w64] at *; omega) | (simp (disch := omega) only [w32_id, w64_id] at *; omega) | (simp (disch := omega) only [tdiv_nn, tmod_nn, w32_id, w64_id] at *; omega) | (subst_vars; simp [upZ] at *; omega) | (subst_vars; simp [upZ] at *; simp only [w32, w64] at *; omega))) | fail)) | (first | omega | ((try dsimp only); (first | omega | (simp (disch := omega) only [w32_id, w64_id]; omega) | (simp only [w32, w64]; omega) | (with_reducible refine (and32_le ?_ ?_).1 <;> omega) | (with_reducible refine (and32_le ?_ ?_).2 <;> omega) | (with_reducible refine (mulR ?_ ?_ ?_ ?_).1 <;> omega) | (with_reducible refine (mulR ?_ ?_ ?_ ?_).2 <;> omega) | (simp only [w32, w64] at *; omega) | (simp (disch := omega) only [w32_id, w64_id] at *; omega) | (simp (disch := omega) only [tdiv_nn, tmod_nn, w32_id, w64_id] at *; omega) | (subst_vars; simp [upZ] at *; omega) | (subst_vars; simp [upZ] at *; simp only [w32, w64] at *; omega))) | fail) | fail)))); (first | done | focus (first | (dsimp only; done) | ((try dsimp only); (first | with_reducible assumption | first | omega | (refine ⟨?_, ?_⟩ <;> (first | omega | ((try dsimp only); (first | omega | (simp (disch := omega) only [w32_id, w64_id]; omega) | (simp only [w32, w64]; omega) | (with_reducible refine (and32_le ?_ ?_).1 <;> omega) | (with_reducible refine (and32_le ?_ ?_).2 <;> omega) | (with_reducible refine (mulR ?_ ?_ ?_ ?_).1 <;> omega) | (with_reducible refine (mulR ?_ ?_ ?_ ?_).2 <;> omega) | (simp only [w32, w64] at *; omega) | (simp (disch := omega) only [w32_id, w64_id] at *; omega) | (simp (disch := omega) only [tdiv_nn, tmod_nn, w32_id, w64_id] at *; omega) | (subst_vars; simp [upZ] at *; omega) | (subst_vars; simp [upZ] at *; simp only [w32, w64] at *; omega))) | fail)) | (first | omega | ((try dsimp only); (first | omega | (simp (disch := omega) only [w32_id, w64_id]; omega) | (simp only [w32, w64]; omega) | (with_reducible refine (and32_le ?_ ?_).1 <;> omega) | (with_reducible refine (and32_le ?_ ?_).2 <;> omega) | (with_reducible refine (mulR ?_ ?_ ?_ ?_).1 <;> omega) | (with_reducible refine (mulR ?_ ?_ ?_ ?_).2 <;> omega) | (simp only [w32, w64] at *; omega) | (simp (disch := omega) only [w32_id, w64_id] at *; omega) | (simp (disch := omega) only [tdiv_nn, tmod_nn, w32_id, w64_id] at *; omega) | (subst_vars; simp [upZ] at *; omega) | (subst_vars; simp [upZ] at *; simp only [w32, w64] at *; omega))) | fail) | fail)))); (first | done | focus (first | (dsimp only; done) | ((try dsimp only); ((first | with_reducible assumption | exact f10.trans (up_row2 (by with_reducible assumption) (by omega) (by (first | omega | (simp (disch := omega) only [w32_id]; first | done | omega) | (simp (disch := omega) only [w32_id] at *; omega)))) | fail))))); (first | done | focus (first | (dsimp only; done) | ((try dsimp only); ((first | with_reducible assumption | exact f12.trans (up_row2 (by with_reducible assumption) (by omega) (by (first | omega | (simp (disch := omega) only [w32_id]; first | done | omega) | (simp (disch := omega) only [w32_id] at *; omega)))) | fail))))); (first | done | focus (first | (dsimp only; done) | ((try dsimp only); ((first | exact ⟨q, hq4, hqe, hqu, CLI_0 (d := 8) e9 (by omega) (by omega)⟩ | exact ⟨q, hq4, hqe, hqu, CLI_n hcl (CLI_eq hcl (by omega) (by omega) (by omega) hqu (by first | omega | (show Z1 9 _ = _; omega))) (by first | omega | (simp (disch := omega) only [w32_id]; first | done | omega))⟩ | exact ⟨q, hq4, hqe, hqu, CLI_s (d := 8) hcl f9 (by omega) (CLI_ne hcl (by omega) (by omega) hqe (by first | omega | (show Z1 9 _ ≠ _; omega))) (by omega) (by omega) (by first | omega | (simp (disch := omega) only [w32_id]; first | done | omega)) (by first | omega | (simp (disch := omega) only [w32_id]; first | done | omega))⟩ | fail)))))); (first | omega | ((try dsimp only); (first | omega | (simp (disch := omega) only [w32_id, w64_id]; omega) | (simp only [w32, w64]; omega) | (with_reducible refine (and32_le ?_ ?_).1 <;> omega) | (with_reducible refine (and32_le ?_ ?_).2 <;> omega) | (with_reducible refine (mulR ?_ ?_ ?_ ?_).1 <;> omega) | (with_reducible refine (mulR ?_ ?_ ?_ ?_).2 <;> omega) | (simp only [w32, w64] at *; omega) | (simp (disch := omega) only [w32_id, w64_id] at *; omega) | (simp (disch := omega) only [tdiv_nn, tmod_nn, w32_id, w64_id] at *; omega) | (subst_vars; simp [upZ] at *; omega) | (subst_vars; simp [upZ] at *; simp only [w32, w64] at *; omega))) | fail))
          | with_reducible exact trivial
          | with_reducible assumption
          | (refine Exists.intro _ (And.intro rfl (And.intro rfl ?_)); refine ⟨by assumption, by assumption, ?_⟩; (refine ⟨?_, ?_, ?_, ?_, trivial⟩; (first | done | focus (first | (dsimp only; done) | ((try dsimp only); (first | omega | with_reducible assumption | with_reducible rfl | (first | omega | ((try dsimp only); (first | omega | (simp (disch := omega) only [w32_id, w64_id]; omega) | (simp only [w32, w64]; omega) | (with_reducible refine (and32_le ?_ ?_).1 <;> omega) | (with_reducible refine (and32_le ?_ ?_).2 <;> omega) | (with_reducible refine (mulR ?_ ?_ ?_ ?_).1 <;> omega) | (with_reducible refine (mulR ?_ ?_ ?_ ?_).2 <;> omega) | (simp only [w32, w64] at *; omega) | (simp (disch := omega) only [w32_id, w64_id] at *; omega) | (simp (disch := omega) only [tdiv_nn, tmod_nn, w32_id, w64_id] at *; omega) | (subst_vars; simp [upZ] at *; omega) | (subst_vars; simp [upZ] at *; simp only [w32, w64] at *; omega))) | fail) | fail)))); (first | done | focus (first | (dsimp only; done) | ((try dsimp only); ((first | with_reducible assumption | fail))))); (first | done | focus (first | (dsimp only; done) | ((try dsimp only); ((first | with_reducible assumption | fail))))); (first | done | focus (first | (dsimp only; done) | ((try dsimp only); ((first | exact ⟨q, hq4, hqe, CLI_e (d := 8) hcl (by omega) hq4 f9⟩ | fail)))))))
          | omega
          | (dsimp only; omega)
          | decide
          | (show (0 : Int) < _; omega)
          | (show (0 : Int) < _; simp only [w64] at *; omega)
          | (simp only [w32, w64] at *; omega)
          | (first | omega | ((try dsimp only); (first | omega | (simp (disch := omega) only [w32_id, w64_id]; omega) | (simp only [w32, w64]; omega) | (with_reducible refine (and32_le ?_ ?_).1 <;> omega) | (with_reducible refine (and32_le ?_ ?_).2 <;> omega) | (with_reducible refine (mulR ?_ ?_ ?_ ?_).1 <;> omega) | (with_reducible refine (mulR ?_ ?_ ?_ ?_).2 <;> omega) | (simp only [w32, w64] at *; omega) | (simp (disch := omega) only [w32_id, w64_id] at *; omega) | (simp (disch := omega) only [tdiv_nn, tmod_nn, w32_id, w64_id] at *; omega) | (subst_vars; simp [upZ] at *; omega) | (subst_vars; simp [upZ] at *; simp only [w32, w64] at *; omega))) | fail)
          | ((with_reducible show swT _ _ _ _); exact trivial)
          | rfl
          | skip
  have e9 : Z 9 = Z 9 := rfl
  have e10 : Z 10 = Z 10 := rfl
  have e12 : Z 12 = Z 12 := rfl
  obtain ⟨q, hq4, hqe, hqu⟩ : ∃ q : Nat, q < 4 ∧ Z 9 q = a1 ∧ ∀ t : Nat, t < 4 → Z 9 t = a1 → t = q := by
      obtain ⟨t, t4, te, -⟩ := q0.1 a1.toNat (by omega)
      exact ⟨t, t4, by (have te2 : Z 9 t = a1.toNat := te); omega, fun s s4 se => q0.2 s t s4 t4 (by show Z 9 s = Z 9 t; (have te2 : Z 9 t = a1.toNat := te); omega)⟩
  refine wq_run hG n R0 [41] 900 _ _ _ _ ?_
  repeat' (first
      | with_reducible rfl
      | refine And.intro ?_ ?_
      | with_reducible exact True.intro
      | ((with_reducible show _ = true); rfl)
      | ((with_reducible show recvG _ _); rfl)
      | ((with_reducible show CI _); assumption)
      | (fail_if_success (first | (with_reducible show _ ≤ _) | (with_reducible show _ = _) | (with_reducible show _ ∨ _) | (with_reducible show _ < _))
         first
         | (refine ld_bnd (by assumption) rfl ?_; intro _ _ _ hld; (try dsimp only at hld); (try simp only [Nat.reduceAdd] at hld))
         | (refine st_k (by assumption) (by assumption) (by first | exact Or.inl (by decide) | exact Or.inr (by decide)) (fun lo hi hb => by first | (cases hb; done) | (cases hb; constructor <;> (first | omega | ((try dsimp only); (first | omega | (simp (disch := omega) only [w32_id, w64_id]; omega) | (simp only [w32, w64]; omega) | (with_reducible refine (and32_le ?_ ?_).1 <;> omega) | (with_reducible refine (and32_le ?_ ?_).2 <;> omega) | (with_reducible refine (mulR ?_ ?_ ?_ ?_).1 <;> omega) | (with_reducible refine (mulR ?_ ?_ ?_ ?_).2 <;> omega) | (simp only [w32, w64] at *; omega) | (simp (disch := omega) only [w32_id, w64_id] at *; omega) | (simp (disch := omega) only [tdiv_nn, tmod_nn, w32_id, w64_id] at *; omega) | (subst_vars; simp [upZ] at *; omega) | (subst_vars; simp [upZ] at *; simp only [w32, w64] at *; omega))) | fail))) ?_; intro Z' _ hkk; intro hup; (try dsimp only at hup); (first | have := (congrFun (congrFun hup 8) 0).trans (up_ne (by decide)) | have := (congrFun (congrFun hup 8) 0).trans (up_nk (by decide)) | skip); (first | have := (congrFun (congrFun hup 8) 1).trans (up_ne (by decide)) | have := (congrFun (congrFun hup 8) 1).trans (up_nk (by decide)) | skip); (try have e9 := (up_o hup (by decide)).trans e9); (try have e10 := (up_o hup (by decide)).trans e10); (try have e12 := (up_o hup (by decide)).trans e12); (first | have f9 : _ = upZ _ 9 _ _ 9 := congrFun hup 9 | have f9 := (up_o hup (by decide)).trans f9 | skip); (first | have f10 : _ = upZ _ 10 _ _ 10 := congrFun hup 10 | have f10 := (up_o hup (by decide)).trans f10 | skip); (first | have f12 : _ = upZ _ 12 _ _ 12 := congrFun hup 12 | have f12 := (up_o hup (by decide)).trans f12 | skip); (try have w4 := (up_o hup (by decide)).trans w4); (try have w5 := (up_o hup (by decide)).trans w5))
         | (refine st_k (by assumption) (by assumption) (by first | exact Or.inl (by decide) | exact Or.inr (by decide)) (fun lo hi hb => ?_) ?_; (cases hb; refine And.intro ?_ ?_))
         | refine st_same ?_
         | (intro (r : Option PV) σ' hq
            first
            | (obtain ⟨rfl, x, rfl, hp⟩ := hq; (try replace hp : _ ∧ _ := hp); (try dsimp only at hp))
            | (obtain ⟨Z', (o : Nat), rfl, rfl, hI2, hk2, ⟨⟨hp, rfl⟩ | ⟨hp, rfl⟩, -⟩⟩ := hq <;> ((first | have hk3 := kp_to (by assumption) (by rfl) hk2 | have hk3 := ks_to (by assumption) (by rfl) hk2); (first | have e9 := (kp_av (o := 9) hk2 (by rfl) (by decide)).trans e9 | skip); (first | have e10 := (kp_av (o := 10) hk2 (by rfl) (by decide)).trans e10 | skip); (first | have e12 := (kp_av (o := 12) hk2 (by rfl) (by decide)).trans e12 | skip); clear hk2))
            | (obtain ⟨Z', x, rfl, rfl, hI2, hk2, hp⟩ := hq; (try replace hp : _ ∧ _ := hp); (try dsimp only at hp); (first | have hk3 := kp_to (by assumption) (by rfl) hk2 | have hk3 := ks_to (by assumption) (by rfl) hk2); (first | have e9 := (kp_av (o := 9) hk2 (by rfl) (by decide)).trans e9 | skip); (first | have e10 := (kp_av (o := 10) hk2 (by rfl) (by decide)).trans e10 | skip); (first | have e12 := (kp_av (o := 12) hk2 (by rfl) (by decide)).trans e12 | skip); clear hk2)
            | (obtain ⟨Z', rfl, rfl, hI2, hk2, hp⟩ := hq; (try replace hp : _ ∧ _ := hp); (try dsimp only at hp); (first | have hk3 := kp_to (by assumption) (by rfl) hk2 | have hk3 := ks_to (by assumption) (by rfl) hk2); (first | have e9 := (kp_av (o := 9) hk2 (by rfl) (by decide)).trans e9 | skip); (first | have e10 := (kp_av (o := 10) hk2 (by rfl) (by decide)).trans e10 | skip); (first | have e12 := (kp_av (o := 12) hk2 (by rfl) (by decide)).trans e12 | skip); clear hk2)
            | (obtain ⟨rfl, rfl⟩ := hq)
            | (obtain ⟨Z', x, rfl, rfl, hI2, hk2⟩ := hq; have hkn := keeps_nil hk2; clear hk2; subst hkn)
            | (obtain ⟨Z', x, rfl, rfl, hI2, hk2⟩ := hq; (first | have hk3 := kp_to (by assumption) (by rfl) hk2 | have hk3 := ks_to (by assumption) (by rfl) hk2); (first | have e9 := (kp_av (o := 9) hk2 (by rfl) (by decide)).trans e9 | skip); (first | have e10 := (kp_av (o := 10) hk2 (by rfl) (by decide)).trans e10 | skip); (first | have e12 := (kp_av (o := 12) hk2 (by rfl) (by decide)).trans e12 | skip); clear hk2)
            | (rcases hq with ⟨Z', rfl, rfl, hI2, hk2⟩ | ⟨Z', rfl, rfl, hI2, hk2⟩ <;> ((first | have hk3 := kp_to (by assumption) (by rfl) hk2 | have hk3 := ks_to (by assumption) (by rfl) hk2); (first | have e9 := (kp_av (o := 9) hk2 (by rfl) (by decide)).trans e9 | skip); (first | have e10 := (kp_av (o := 10) hk2 (by rfl) (by decide)).trans e10 | skip); (first | have e12 := (kp_av (o := 12) hk2 (by rfl) (by decide)).trans e12 | skip); clear hk2))
            | (obtain ⟨Z', rfl, rfl, hI2, hk2⟩ := hq; (first | have hk3 := kp_to (by assumption) (by rfl) hk2 | have hk3 := ks_to (by assumption) (by rfl) hk2); (first | have e9 := (kp_av (o := 9) hk2 (by rfl) (by decide)).trans e9 | skip); (first | have e10 := (kp_av (o := 10) hk2 (by rfl) (by decide)).trans e10 | skip); (first | have e12 := (kp_av (o := 12) hk2 (by rfl) (by decide)).trans e12 | skip); clear hk2))
         | (intro hc; (try simp only [cmp3_c] at hc); simp only [cmpI] at hc)
         | (show CI _; assumption)
         | intro (_ : Int)
         | intro (Z' : ZT)
         | intro (_ : CI _)
         | (intro (hkk : kp _ _ _))
         | intro (_ : _ ≤ _)
         | (intro (hup : _ = upZ _ _ _ _); (try dsimp only at hup); (first | have := (congrFun (congrFun hup 8) 0).trans (up_ne (by decide)) | have := (congrFun (congrFun hup 8) 0).trans (up_nk (by decide)) | skip); (first | have := (congrFun (congrFun hup 8) 1).trans (up_ne (by decide)) | have := (congrFun (congrFun hup 8) 1).trans (up_nk (by decide)) | skip); (try have e9 := (up_o hup (by decide)).trans e9); (try have e10 := (up_o hup (by decide)).trans e10); (try have e12 := (up_o hup (by decide)).trans e12); (first | have f9 : _ = upZ _ 9 _ _ 9 := congrFun hup 9 | have f9 := (up_o hup (by decide)).trans f9 | skip); (first | have f10 : _ = upZ _ 10 _ _ 10 := congrFun hup 10 | have f10 := (up_o hup (by decide)).trans f10 | skip); (first | have f12 : _ = upZ _ 12 _ _ 12 := congrFun hup 12 | have f12 := (up_o hup (by decide)).trans f12 | skip); (try have w4 := (up_o hup (by decide)).trans w4); (try have w5 := (up_o hup (by decide)).trans w5))
         | (intro (hld : _ = _); (try dsimp only at hld); (try simp only [Nat.reduceAdd] at hld))
         | intro (_ : _ < _)
         | intro (_ : _ ≠ _)
         | intro (_ : _ ∨ _)))
  all_goals (have lp41 := loop 1000000)
  all_goals first
    | refine hG.2 41 _ [(0, vr 8), (1, vi a1), (2, vi _), (3, vi _)] _ _ rfl ?_
    | skip
  all_goals first
    | with_reducible rfl
    | ((with_reducible show _ = _); rfl)
    | ((with_reducible show recvG _ _); rfl)
    | ((with_reducible show G 41 _ _ _); refine lp41 _ _ _ ?_ ?_ ?_ ?_; assumption; assumption; (refine ⟨?_, ?_, ?_, ?_, ?_, ?_, ?_, trivial⟩; (first | done | focus (first | (dsimp only; done) | ((try dsimp only); (first | omega | (refine ⟨?_, ?_⟩ <;> (first | omega | ((try dsimp only); (first | omega | (simp (disch := omega) only [w32_id, w64_id]; omega) | (simp only [w32, w64]; omega) | (with_reducible refine (and32_le ?_ ?_).1 <;> omega) | (with_reducible refine (and32_le ?_ ?_).2 <;> omega) | (with_reducible refine (mulR ?_ ?_ ?_ ?_).1 <;> omega) | (with_reducible refine (mulR ?_ ?_ ?_ ?_).2 <;> omega) | (simp only [w32, w64] at *; omega) | (simp (disch := omega) only [w32_id, w64_id] at *; omega) | (simp (disch := omega) only [tdiv_nn, tmod_nn, w32_id, w64_id] at *; omega) | (subst_vars; simp [upZ] at *; omega) | (subst_vars; simp [upZ] at *; simp only [w32, w64] at *; omega))) | fail)) | (first | omega | ((try dsimp only); (first | omega | (simp (disch := omega) only [w32_id, w64_id]; omega) | (simp only [w32, w64]; omega) | (with_reducible refine (and32_le ?_ ?_).1 <;> omega) | (with_reducible refine (and32_le ?_ ?_).2 <;> omega) | (with_reducible refine (mulR ?_ ?_ ?_ ?_).1 <;> omega) | (with_reducible refine (mulR ?_ ?_ ?_ ?_).2 <;> omega) | (simp only [w32, w64] at *; omega) | (simp (disch := omega) only [w32_id, w64_id] at *; omega) | (simp (disch := omega) only [tdiv_nn, tmod_nn, w32_id, w64_id] at *; omega) | (subst_vars; simp [upZ] at *; omega) | (subst_vars; simp [upZ] at *; simp only [w32, w64] at *; omega))) | fail) | fail)))); (first | done | focus (first | (dsimp only; done) | ((try dsimp only); (first | omega | (refine ⟨?_, ?_⟩ <;> (first | omega | ((try dsimp only); (first | omega | (simp (disch := omega) only [w32_id, w64_id]; omega) | (simp only [w32, w64]; omega) | (with_reducible refine (and32_le ?_ ?_).1 <;> omega) | (with_reducible refine (and32_le ?_ ?_).2 <;> omega) | (with_reducible refine (mulR ?_ ?_ ?_ ?_).1 <;> omega) | (with_reducible refine (mulR ?_ ?_ ?_ ?_).2 <;> omega) | (simp only [w32, w64] at *; omega) | (simp (disch := omega) only [w32_id, w64_id] at *; omega) | (simp (disch := omega) only [tdiv_nn, tmod_nn, w32_id, w64_id] at *; omega) | (subst_vars; simp [upZ] at *; omega) | (subst_vars; simp [upZ] at *; simp only [w32, w64] at *; omega))) | fail)) | (first | omega | ((try dsimp only); (first | omega | (simp (disch := omega) only [w32_id, w64_id]; omega) | (simp only [w32, w64]; omega) | (with_reducible refine (and32_le ?_ ?_).1 <;> omega) | (with_reducible refine (and32_le ?_ ?_).2 <;> omega) | (with_reducible refine (mulR ?_ ?_ ?_ ?_).1 <;> omega) | (with_reducible refine (mulR ?_ ?_ ?_ ?_).2 <;> omega) | (simp only [w32, w64] at *; omega) | (simp (disch := omega) only [w32_id, w64_id] at *; omega) | (simp (disch := omega) only [tdiv_nn, tmod_nn, w32_id, w64_id] at *; omega) | (subst_vars; simp [upZ] at *; omega) | (subst_vars; simp [upZ] at *; simp only [w32, w64] at *; omega))) | fail) | fail)))); (first | done | focus (first | (dsimp only; done) | ((try dsimp only); (first | with_reducible assumption | first | omega | (refine ⟨?_, ?_⟩ <;> (first | omega | ((try dsimp only); (first | omega | (simp (disch := omega) only [w32_id, w64_id]; omega) | (simp only [w32, w64]; omega) | (with_reducible refine (and32_le ?_ ?_).1 <;> omega) | (with_reducible refine (and32_le ?_ ?_).2 <;> omega) | (with_reducible refine (mulR ?_ ?_ ?_ ?_).1 <;> omega) | (with_reducible refine (mulR ?_ ?_ ?_ ?_).2 <;> omega) | (simp only [w32, w64] at *; omega) | (simp (disch := omega) only [w32_id, w64_id] at *; omega) | (simp (disch := omega) only [tdiv_nn, tmod_nn, w32_id, w64_id] at *; omega) | (subst_vars; simp [upZ] at *; omega) | (subst_vars; simp [upZ] at *; simp only [w32, w64] at *; omega))) | fail)) | (first | omega | ((try dsimp only); (first | omega | (simp (disch := omega) only [w32_id, w64_id]; omega) | (simp only [w32, w64]; omega) | (with_reducible refine (and32_le ?_ ?_).1 <;> omega) | (with_reducible refine (and32_le ?_ ?_).2 <;> omega) | (with_reducible refine (mulR ?_ ?_ ?_ ?_).1 <;> omega) | (with_reducible refine (mulR ?_ ?_ ?_ ?_).2 <;> omega) | (simp only [w32, w64] at *; omega) | (simp (disch := omega) only [w32_id, w64_id] at *; omega) | (simp (disch := omega) only [tdiv_nn, tmod_nn, w32_id, w64_id] at *; omega) | (subst_vars; simp [upZ] at *; omega) | (subst_vars; simp [upZ] at *; simp only [w32, w64] at *; omega))) | fail) | fail)))); (first | done | focus (first | (dsimp only; done) | ((try dsimp only); (first | with_reducible assumption | first | omega | (refine ⟨?_, ?_⟩ <;> (first | omega | ((try dsimp only); (first | omega | (simp (disch := omega) only [w32_id, w64_id]; omega) | (simp only [w32, w64]; omega) | (with_reducible refine (and32_le ?_ ?_).1 <;> omega) | (with_reducible refine (and32_le ?_ ?_).2 <;> omega) | (with_reducible refine (mulR ?_ ?_ ?_ ?_).1 <;> omega) | (with_reducible refine (mulR ?_ ?_ ?_ ?_).2 <;> omega) | (simp only [w32, w64] at *; omega) | (simp (disch := omega) only [w32_id, w64_id] at *; omega) | (simp (disch := omega) only [tdiv_nn, tmod_nn, w32_id, w64_id] at *; omega) | (subst_vars; simp [upZ] at *; omega) | (subst_vars; simp [upZ] at *; simp only [w32, w64] at *; omega))) | fail)) | (first | omega | ((try dsimp only); (first | omega | (simp (disch := omega) only [w32_id, w64_id]; omega) | (simp only [w32, w64]; omega) | (with_reducible refine (and32_le ?_ ?_).1 <;> omega) | (with_reducible refine (and32_le ?_ ?_).2 <;> omega) | (with_reducible refine (mulR ?_ ?_ ?_ ?_).1 <;> omega) | (with_reducible refine (mulR ?_ ?_ ?_ ?_).2 <;> omega) | (simp only [w32, w64] at *; omega) | (simp (disch := omega) only [w32_id, w64_id] at *; omega) | (simp (disch := omega) only [tdiv_nn, tmod_nn, w32_id, w64_id] at *; omega) | (subst_vars; simp [upZ] at *; omega) | (subst_vars; simp [upZ] at *; simp only [w32, w64] at *; omega))) | fail) | fail)))); (first | done | focus (first | (dsimp only; done) | ((try dsimp only); ((first | with_reducible assumption | exact f10.trans (up_row2 (by with_reducible assumption) (by omega) (by (first | omega | (simp (disch := omega) only [w32_id]; first | done | omega) | (simp (disch := omega) only [w32_id] at *; omega)))) | fail))))); (first | done | focus (first | (dsimp only; done) | ((try dsimp only); ((first | with_reducible assumption | exact f12.trans (up_row2 (by with_reducible assumption) (by omega) (by (first | omega | (simp (disch := omega) only [w32_id]; first | done | omega) | (simp (disch := omega) only [w32_id] at *; omega)))) | fail))))); (first | done | focus (first | (dsimp only; done) | ((try dsimp only); ((first | exact ⟨q, hq4, hqe, hqu, CLI_0 (d := 8) e9 (by omega) (by omega)⟩ | exact ⟨q, hq4, hqe, hqu, CLI_n hcl (CLI_eq hcl (by omega) (by omega) (by omega) hqu (by first | omega | (show Z1 9 _ = _; omega))) (by first | omega | (simp (disch := omega) only [w32_id]; first | done | omega))⟩ | exact ⟨q, hq4, hqe, hqu, CLI_s (d := 8) hcl f9 (by omega) (CLI_ne hcl (by omega) (by omega) hqe (by first | omega | (show Z1 9 _ ≠ _; omega))) (by omega) (by omega) (by first | omega | (simp (disch := omega) only [w32_id]; first | done | omega)) (by first | omega | (simp (disch := omega) only [w32_id]; first | done | omega))⟩ | fail)))))); (first | omega | ((try dsimp only); (first | omega | (simp (disch := omega) only [w32_id, w64_id]; omega) | (simp only [w32, w64]; omega) | (with_reducible refine (and32_le ?_ ?_).1 <;> omega) | (with_reducible refine (and32_le ?_ ?_).2 <;> omega) | (with_reducible refine (mulR ?_ ?_ ?_ ?_).1 <;> omega) | (with_reducible refine (mulR ?_ ?_ ?_ ?_).2 <;> omega) | (simp only [w32, w64] at *; omega) | (simp (disch := omega) only [w32_id, w64_id] at *; omega) | (simp (disch := omega) only [tdiv_nn, tmod_nn, w32_id, w64_id] at *; omega) | (subst_vars; simp [upZ] at *; omega) | (subst_vars; simp [upZ] at *; simp only [w32, w64] at *; omega))) | fail))
    | with_reducible exact trivial
    | with_reducible assumption
    | (refine Exists.intro _ (And.intro rfl (And.intro rfl ?_)); refine ⟨by assumption, by assumption, ?_⟩; (refine ⟨?_, ?_, ?_, ?_, trivial⟩; (first | done | focus (first | (dsimp only; done) | ((try dsimp only); (first | omega | with_reducible assumption | with_reducible rfl | (first | omega | ((try dsimp only); (first | omega | (simp (disch := omega) only [w32_id, w64_id]; omega) | (simp only [w32, w64]; omega) | (with_reducible refine (and32_le ?_ ?_).1 <;> omega) | (with_reducible refine (and32_le ?_ ?_).2 <;> omega) | (with_reducible refine (mulR ?_ ?_ ?_ ?_).1 <;> omega) | (with_reducible refine (mulR ?_ ?_ ?_ ?_).2 <;> omega) | (simp only [w32, w64] at *; omega) | (simp (disch := omega) only [w32_id, w64_id] at *; omega) | (simp (disch := omega) only [tdiv_nn, tmod_nn, w32_id, w64_id] at *; omega) | (subst_vars; simp [upZ] at *; omega) | (subst_vars; simp [upZ] at *; simp only [w32, w64] at *; omega))) | fail) | fail)))); (first | done | focus (first | (dsimp only; done) | ((try dsimp only); ((first | with_reducible assumption | fail))))); (first | done | focus (first | (dsimp only; done) | ((try dsimp only); ((first | with_reducible assumption | fail))))); (first | done | focus (first | (dsimp only; done) | ((try dsimp only); ((first | exact ⟨q, hq4, hqe, CLI_e (d := 8) hcl (by omega) hq4 f9⟩ | fail)))))))
    | omega
    | (dsimp only; omega)
    | decide
    | (show (0 : Int) < _; omega)
    | (show (0 : Int) < _; simp only [w64] at *; omega)
    | (simp only [w32, w64] at *; omega)
    | (first | omega | ((try dsimp only); (first | omega | (simp (disch := omega) only [w32_id, w64_id]; omega) | (simp only [w32, w64]; omega) | (with_reducible refine (and32_le ?_ ?_).1 <;> omega) | (with_reducible refine (and32_le ?_ ?_).2 <;> omega) | (with_reducible refine (mulR ?_ ?_ ?_ ?_).1 <;> omega) | (with_reducible refine (mulR ?_ ?_ ?_ ?_).2 <;> omega) | (simp only [w32, w64] at *; omega) | (simp (disch := omega) only [w32_id, w64_id] at *; omega) | (simp (disch := omega) only [tdiv_nn, tmod_nn, w32_id, w64_id] at *; omega) | (subst_vars; simp [upZ] at *; omega) | (subst_vars; simp [upZ] at *; simp only [w32, w64] at *; omega))) | fail)
    | ((with_reducible show swT _ _ _ _); exact trivial)
    | rfl
    | skip
