/-! ===== the reader, exactly: the text; fault, plan ===== -/

def upF (f : Int → Int) (l a : Int) : Int → Int := fun k => if k = l then a else f k
/-- where the i-th line begins, the letters' places there, the terms used -/
def lsS (b : Int → Int) : Nat → Int × (Int → Int) × Int
  | 0 => (0, fun _ => -1, 0)
  | i + 1 => (lnE b (lsS b i).2.1 (lsS b i).1, upF (lsS b i).2.1 (b (lsS b i).1 - 97) i, (lsS b i).2.2 + (lnT b (lsS b i).2.1 (lsS b i).1).2.2)
def OKL (b : Int → Int) (len : Int) (i : Nat) : Prop := (lsS b i).1 < len ∧ lnB b (lsS b i).2.1 (lsS b i).1 = -1
/-- how many lines can be read, and what reading answers -/
def RDR (b : Int → Int) (len : Int) (m : Nat) (x : Int) : Prop := (∀ i : Nat, i < m → OKL b len i) ∧ (len ≤ (lsS b m).1 ∧ x = -4 ∨ (lsS b m).1 < len ∧ lnB b (lsS b m).2.1 (lsS b m).1 = x ∧ 0 ≤ x)
theorem RDR_u {b : Int → Int} {len x x' : Int} {m m' : Nat} (h : RDR b len m x) (g : RDR b len m' x') : m = m' ∧ x = x' := by
  have key : ∀ {m m' : Nat} {x x' : Int}, RDR b len m x → RDR b len m' x' → ¬ m < m' := fun {m m' x x'} h g hq => by
    have o := g.1 m hq
    rcases h.2 with ⟨a, -⟩ | ⟨-, a, c⟩
    · have := o.1
      omega
    · have := o.2
      omega
  have h1 := key h g
  have h2 := key g h
  have e : m = m' := by omega
  subst e
  refine ⟨rfl, ?_⟩
  rcases h.2 with ⟨a, a2⟩ | ⟨a, a2, a3⟩ <;> rcases g.2 with ⟨c, c2⟩ | ⟨c, c2, c3⟩ <;> omega
theorem nuE_ge (b : Int → Int) (p : Int) : p ≤ nuE b p := dgE_ge b 200 p
theorem tmB_ge (b pl : Int → Int) (p : Int) : tmB b pl p = -1 ∨ p ≤ tmB b pl p := by
  have h1 : p ≤ tmP b p := by
    unfold tmP
    split <;> omega
  have h3 : tmP b p ≤ tmQ b p := by
    unfold tmQ
    split
    · exact dgE_ge b 200 _
    · omega
  have h4 : tmQ b p + 1 ≤ tmR b p := nmE_ge b _
  unfold tmB
  (repeat' split) <;> omega
theorem tsC_ge (b pl : Int → Int) : ∀ (n : Nat) (p j : Int), ((tsC b pl n p j).1 = -1 ∨ p ≤ (tsC b pl n p j).1) ∧ p ≤ (tsC b pl n p j).2.1
  | 0, p, j => ⟨Or.inl rfl, Int.le_refl p⟩
  | n + 1, p, j => by
    have h1 := tmB_ge b pl p
    have h2 := (tmE_ge b p).1
    have ih := tsC_ge b pl n (tmE b p) (j + 1)
    show ((if tmB b pl p ≠ -1 then (tmB b pl p, p, j) else if b (tmE b p) = 43 ∨ b (tmE b p) = 45 then tsC b pl n (tmE b p) (j + 1) else (-1, tmE b p, j + 1)).1 = -1 ∨ p ≤ (if tmB b pl p ≠ -1 then (tmB b pl p, p, j) else if b (tmE b p) = 43 ∨ b (tmE b p) = 45 then tsC b pl n (tmE b p) (j + 1) else (-1, tmE b p, j + 1)).1) ∧ p ≤ (if tmB b pl p ≠ -1 then (tmB b pl p, p, j) else if b (tmE b p) = 43 ∨ b (tmE b p) = 45 then tsC b pl n (tmE b p) (j + 1) else (-1, tmE b p, j + 1)).2.1
    by_cases hq : tmB b pl p ≠ -1
    · simp only [if_pos hq]
      exact ⟨h1, Int.le_refl p⟩
    · simp only [if_neg hq]
      by_cases hs : b (tmE b p) = 43 ∨ b (tmE b p) = 45
      · simp only [if_pos hs]
        refine ⟨?_, by omega⟩
        rcases ih.1 with e | e
        · exact Or.inl e
        · exact Or.inr (by omega)
      · simp only [if_neg hs]
        exact ⟨Or.inl (by first | trivial | rfl), show p ≤ tmE b p by omega⟩
theorem lnQ_ge (b : Int → Int) (e : Int) : e ≤ lnQ b e ∧ e ≤ lnR b e := by
  have h1 : e ≤ lnQ b e := by
    unfold lnQ
    split
    · have := nuE_ge b (e + 1)
      omega
    · omega
  refine ⟨h1, ?_⟩
  unfold lnR
  split <;> omega
theorem lnB_ge (b pl : Int → Int) (p : Int) : lnB b pl p = -1 ∨ p ≤ lnB b pl p := by
  have h := tsC_ge b pl 100 (p + 2) 0
  have h1 : (lnT b pl p).1 = -1 ∨ p + 2 ≤ (lnT b pl p).1 := h.1
  have h2 : p + 2 ≤ (lnT b pl p).2.1 := h.2
  have h3 := lnQ_ge b (lnT b pl p).2.1
  unfold lnB
  (repeat' split) <;> omega
theorem lnB_ok {b pl : Int → Int} {p : Int} (h : lnB b pl p = -1) (hp : 0 ≤ p) : (97 ≤ b p ∧ b p ≤ 100) ∧ pl (b p - 97) < 0 := by
  by_cases hq : (97 ≤ b p ∧ b p ≤ 100) ∧ pl (b p - 97) < 0
  · exact hq
  · have := ln_b0 hq
    omega
/-- a line as the class has noted it -/
def LNF (b : Int → Int) (Z : ZT) (i : Nat) : Prop := (97 ≤ b (lsS b i).1 ∧ b (lsS b i).1 ≤ 100) ∧ Z 10 (b (lsS b i).1 - 97).toNat = i ∧ Z 11 (b (lsS b i).1 - 97).toNat = (lsS b i).2.2 ∧ Z 12 (b (lsS b i).1 - 97).toNat = (lnT b (lsS b i).2.1 (lsS b i).1).2.2 ∧ Z 13 (b (lsS b i).1 - 97).toNat = lnD b (lnT b (lsS b i).2.1 (lsS b i).1).2.1 ∧ Z 14 (b (lsS b i).1 - 97).toNat = lnN b (lnT b (lsS b i).2.1 (lsS b i).1).2.1 ∧ TMC b Z (lsS b i).2.2 ((lsS b i).1 + 2) (lnT b (lsS b i).2.1 (lsS b i).1).2.2 ∧ 0 ≤ (lsS b i).2.2 ∧ 0 ≤ (lnT b (lsS b i).2.1 (lsS b i).1).2.2 ∧ (lsS b i).2.2 + (lnT b (lsS b i).2.1 (lsS b i).1).2.2 ≤ Z 8 1
/-- what has been read: m lines -/
def RDL (b : Int → Int) (Z : ZT) (m : Nat) : Prop := (Z 8 0 = m ∧ m ≤ 4) ∧ Z 8 1 = (lsS b m).2.2 ∧ plC Z = (lsS b m).2.1 ∧ ORD Z 8 ∧ ∀ i : Nat, i < m → LNF b Z i
theorem pl_0 {Z : ZT} (h : FL Z 10 (-1) 4) : plC Z = fun _ => -1 := by
  funext l
  unfold plC
  split
  · exact h l.toNat (by omega)
  · rfl
theorem RDL_0 {b : Int → Int} {Z : ZT} {v : Int} (hv : v = 0) (h0 : Z 8 0 = 0) (h1 : Z 8 1 = 0) (h9 : OI Z 9 4) (h10 : FL Z 10 (-1) 4) : RDL b Z v.toNat := by
  subst hv
  exact ⟨⟨h0, by decide⟩, h1, pl_0 h10, ORD_0 (d := 8) h0 h9 h10, fun i hi => absurd hi (Nat.not_lt_zero i)⟩
theorem UL_0 {Z : ZT} (h : FL Z 13 1 4) : UL Z := fun l hl _ => h l (by omega)
theorem RDL_o {b : Int → Int} {Z Z' : ZT} {m : Nat} (h : RDL b Z m) (e8 : ∀ k, Z' 8 k = Z 8 k) (e : ∀ o, 9 ≤ o → o ≤ 17 → Z' o = Z o) : RDL b Z' m := by
  obtain ⟨h0, h1, h2, h3, h4⟩ := h
  refine ⟨by rw [e8]; exact h0, by rw [e8]; exact h1, (pl_eq (e 10 (by decide) (by decide))).trans h2, ORD_o (d := 8) h3 (e8 0) (e 9 (by decide) (by decide)) (e 10 (by decide) (by decide)), fun i hi => ?_⟩
  have q := h4 i hi
  unfold LNF TMC at q ⊢
  rw [e 10 (by decide) (by decide), e 11 (by decide) (by decide), e 12 (by decide) (by decide), e 13 (by decide) (by decide), e 14 (by decide) (by decide), e 15 (by decide) (by decide), e 16 (by decide) (by decide), e 17 (by decide) (by decide), e8]
  exact q
theorem RD_step {b : Int → Int} {Z Z' : ZT} {i : Nat} {len v v' : Int} (hi : i = v.toNat) (hv : 0 ≤ v) (hv' : v' = v + 1) (h : RDL b Z i) (hp : Z 6 3 = (lsS b i).1) (hp0 : 0 ≤ Z 6 3) (hl : Z 6 3 < len) (hB : lnB b (plC Z) (Z 6 3) = -1) (hE : Z' 6 3 = lnE b (plC Z) (Z 6 3)) (hW : LNW b (plC Z) Z Z' (Z 6 3)) (hO : ORD Z' 8) (h3 : Z 8 0 ≤ 3) (hu : 0 ≤ Z 8 1) : RDL b Z' v'.toNat ∧ Z' 6 3 = (lsS b v'.toNat).1 ∧ ∀ (O : ∀ j : Nat, j < i → OKL b len j), ∀ j : Nat, j < v'.toNat → OKL b len j := by
  have hs : v'.toNat = i + 1 := by omega
  rw [hs]
  obtain ⟨⟨h0, h04⟩, h1, h2, -, h4⟩ := h
  have hok := lnB_ok hB hp0
  rw [hp, h2] at hB hE hW
  obtain ⟨w0, w1, w10, w11, w12, w13, w14, wt, wk, wn⟩ := hW
  have hok2 := hok
  rw [hp, h2] at hok2
  have hL : (b (lsS b i).1 - 97).toNat < 4 := by omega
  have hpl : Z 10 (b (lsS b i).1 - 97).toNat < 0 := by
    have q := hok2.2
    rw [← h2] at q
    unfold plC at q
    rw [if_pos (by omega)] at q
    exact q
  refine ⟨⟨⟨by omega, by omega⟩, by rw [w1, h1]; rfl, ?_, hO, fun j hj => ?_⟩, by rw [hE]; rfl, fun O j hj => ?_⟩
  · funext l
    show plC Z' l = if l = b (lsS b i).1 - 97 then (i : Int) else (lsS b i).2.1 l
    rw [← h2]
    unfold plC
    by_cases hl4 : 0 ≤ l ∧ l ≤ 3
    · rw [if_pos hl4, w10]
      by_cases hq : l = b (lsS b i).1 - 97
      · rw [if_pos hq, hq, up_eq, h0]
      · rw [if_neg hq, up_nk (by omega), if_pos hl4]
    · rw [if_neg hl4, if_neg (by omega), if_neg hl4]
  · by_cases hq : j < i
    · obtain ⟨a1, a2, a3, a4, a5, a6, a7, a8, a9, a10⟩ := h4 j hq
      have hne : (b (lsS b j).1 - 97).toNat ≠ (b (lsS b i).1 - 97).toNat := fun e => by
        rw [e] at a2
        omega
      have hj4 : (b (lsS b j).1 - 97).toNat < 4 := by omega
      refine ⟨a1, by rw [w10, up_nk hne]; exact a2, by rw [w11, up_nk hne]; exact a3, by rw [w12, up_nk hne]; exact a4, by rw [w13 _ hj4, if_neg hne]; exact a5, by rw [w14, up_nk hne]; exact a6, fun t ht => ?_, a8, a9, by omega⟩
      have k := wk ((lsS b j).2.2.toNat + t) (by omega)
      rw [k.1, k.2.1, k.2.2]
      exact a7 t ht
    · have e : j = i := by omega
      subst e
      refine ⟨hok2.1, by rw [w10, up_eq, h0], by rw [w11, up_eq, h1], by rw [w12, up_eq], by rw [w13 _ hL, if_pos rfl], by rw [w14, up_eq], by rw [← h1]; exact wt, by omega, wn, by omega⟩
  · by_cases hq : j < i
    · exact O j hq
    · have e : j = i := by omega
      subst e
      exact ⟨by omega, hB⟩
theorem RD_f {b : Int → Int} {Z : ZT} {i : Nat} {len x : Int} {P : Prop} (h : RDL b Z i) (hp : Z 6 3 = (lsS b i).1) (hp0 : 0 ≤ Z 6 3) (hl : Z 6 3 < len) (hB : lnB b (plC Z) (Z 6 3) ≠ -1) (hx : x = lnB b (plC Z) (Z 6 3)) (O : ∀ j : Nat, j < i → OKL b len j) : RDR b len i x ∧ (x = -4 → P) := by
  have g := lnB_ge b (plC Z) (Z 6 3)
  have hx0 : 0 ≤ x := by omega
  refine ⟨⟨O, Or.inr ⟨by omega, ?_, hx0⟩⟩, fun e => by omega⟩
  rw [hx, h.2.2.1, hp]
def s_X6_readX : Sp := rRI 1 6 (fun as Z => match as with
    | [.inr (.inr a0)] => ((a0 = 6)) ∧ (BYT (bC Z)) ∧ True
    | _ => False) (fun as => match as with
    | [.inr (.inr a0)] => [4006, 5006, 6006, 8, 9, 10, 11, 12, 13, 14, 15, 16, 17]
    | _ => []) (fun as Z (x : Int) Z' => match as with
    | [.inr (.inr a0)] => (∃ m : Nat, RDR (bC Z) (Z 6 1) m x ∧ (x = -4 → RDL (bC Z) Z' m)) ∧ True
    | _ => False)
set_option maxRecDepth 100000 in
set_option maxHeartbeats 40000000 in
theorem c_X6_readX {l : Launch} {D : va_G} {cA : Nat → ClassId} : PM l D cA yX6_read cX6_read 2 (some .int) 5 110 s_X6_readX := by
  refine of_X6_read (c_X5_clearX) ⟨rfl, rfl⟩ (c_X6_readLineX) ⟨rfl, rfl⟩ (fun as σ hwf hao hpre => ?_)
  obtain ⟨n, Z, R⟩ := σ
  obtain ⟨hR, hI, hpre⟩ := hpre
  obtain rfl : R = R0 := hR
  (try replace hI : CI Z := hI)
  rcases as with _ | ⟨x | x | a0, _ | ⟨v, t⟩⟩ <;> first | exact (hpre : False).elim | skip
  obtain ⟨h0, q0, -⟩ := hpre
  have hk : kp ([4006, 5006, 6006, 8, 9, 10, 11, 12, 13, 14, 15, 16, 17]) Z Z := kp_refl
  refine ⟨Nat.le_of_ble_eq_true rfl, fun G hG => ?_⟩
  clear hao hwf
  (try dsimp only at q0)
  obtain rfl := h0
  have loop : ∀ fuel : Nat, (∀ (Z1 : ZT) (v1 : Int), CI Z1 → kp ([4006, 5006, 6006, 8, 9, 10, 11, 12, 13, 14, 15, 16, 17]) Z Z1 → ((0 ≤ v1 ∧ v1 ≤ 5) ∧ (RDL (bC Z) Z1 v1.toNat) ∧ (Z1 6 3 = (lsS (bC Z) v1.toNat).1) ∧ (∀ i : Nat, i < v1.toNat → OKL (bC Z) (Z 6 1) i) ∧ (UL Z1) ∧ (2 * Z1 8 1 ≤ Z1 6 3) ∧ (Z1 6 1 = Z 6 1) ∧ True) → 6 - v1 ≤ (fuel : Int) → G 14 [(0, vr 6), (1, vi v1)] [] (n, Z1, R0)) := by
    intro fuel
    induction fuel with
    | zero => exact (by intros; omega)
    | succ fuel ih =>
      have ih14 := ih
      · intro Z1 v1 hI1 hk1 hv hm
        obtain ⟨w0, w1, w2, w3, w4, w5, w6, -⟩ := hv
        clear hk hI
        have hb : bC Z1 = bC Z := bC_kp hk1 (by rfl)
        have hr1 : 0 ≤ Z1 6 3 ∧ Z1 6 3 ≤ 160 := hI1 6 3 0 160 rfl
        have hu1 : 0 ≤ Z1 8 1 ∧ Z1 8 1 ≤ 80 := hI1 8 1 0 80 rfl
        have h80 := w1.1
        have hord := w1.2.2.2.1
        refine wq_run hG n R0 [14] 900 _ _ _ _ ?_
        repeat' (first
            | with_reducible rfl
            | ((with_reducible show BYT _); rw [hb]; exact q0)
            | ((with_reducible show ORD _ _); exact hord)
            | refine And.intro ?_ ?_
            | with_reducible exact True.intro
            | ((with_reducible show _ = true); rfl)
            | ((with_reducible show recvG _ _); rfl)
            | ((with_reducible show CI _); first | with_reducible assumption | assumption)
            | (fail_if_success (first | (with_reducible show _ ≤ _) | (with_reducible show _ = _) | (with_reducible show _ ∨ _) | (with_reducible show _ < _) | (with_reducible show G _ _ _ _))
               first
               | show G _ _ _ _
               | (refine ld_bnd (by first | with_reducible assumption | assumption) rfl ?_; intro _ _ _ hld; (try dsimp only at hld); (try simp only [Nat.reduceAdd] at hld))
               | (refine st_k (by first | with_reducible assumption | assumption) (by first | with_reducible assumption | assumption) (by first | exact Or.inl (by decide) | exact Or.inr (by decide)) (fun lo hi hb => by first | (cases hb; done) | (cases hb; constructor <;> (first | omega | ((try dsimp only); (first | omega | (simp (disch := omega) only [w32_id, w64_id]; omega) | (simp only [w32, w64]; omega) | (with_reducible refine (and32_le ?_ ?_).1 <;> omega) | (with_reducible refine (and32_le ?_ ?_).2 <;> omega) | (with_reducible refine (mulR ?_ ?_ ?_ ?_).1 <;> omega) | (with_reducible refine (mulR ?_ ?_ ?_ ?_).2 <;> omega) | (simp only [w32, w64] at *; omega) | (simp (disch := omega) only [w32_id, w64_id] at *; omega) | (simp (disch := omega) only [tdiv_nn, tmod_nn, w32_id, w64_id] at *; omega) | (subst_vars; simp [upZ] at *; omega) | (subst_vars; simp [upZ] at *; simp only [w32, w64] at *; omega))) | fail))) ?_; intro Z' _ hkk; intro hld; (try dsimp only at hld); (try simp only [Nat.reduceAdd] at hld); intro hup; (try dsimp only at hup); (first | have := (congrFun (congrFun hup 6) 3).trans (up_ne (by decide)) | have := (congrFun (congrFun hup 6) 3).trans (up_nk (o := 6) (by decide)) | skip); (first | have := (congrFun (congrFun hup 6) 4).trans (up_ne (by decide)) | have := (congrFun (congrFun hup 6) 4).trans (up_nk (o := 6) (by decide)) | skip); (first | have := (congrFun (congrFun hup 6) 1).trans (up_ne (by decide)) | have := (congrFun (congrFun hup 6) 1).trans (up_nk (o := 6) (by decide)) | skip); (first | have := (congrFun (congrFun hup 8) 0).trans (up_ne (by decide)) | have := (congrFun (congrFun hup 8) 0).trans (up_nk (o := 8) (by decide)) | skip); (first | have := (congrFun (congrFun hup 8) 1).trans (up_ne (by decide)) | have := (congrFun (congrFun hup 8) 1).trans (up_nk (o := 8) (by decide)) | skip); (try have hb := (bC_up hup (by decide) (by intro hz; first | exact absurd hz (by decide) | decide | omega)).trans hb); (try have h9 := OI_o (up_o hup (by decide)) h9); (try have h10 := FL_o (up_o hup (by decide)) h10); (try have h13 := FL_o (up_o hup (by decide)) h13))
               | (refine st_k (by first | with_reducible assumption | assumption) (by first | with_reducible assumption | assumption) (by first | exact Or.inl (by decide) | exact Or.inr (by decide)) (fun lo hi hb => ?_) ?_; (cases hb; refine And.intro ?_ ?_))
               | refine st_same ?_
               | (intro (r : Option PV) σ' hq
                  first
                  | (obtain ⟨rfl, x, rfl, hp⟩ := hq; (try replace hp : _ ∧ _ := hp); (try dsimp only at hp); (first | (have hc9 : OI _ 9 4 := hp.2.2.1; have h9 := hc9; have h10 : FL _ 10 (-1) 4 := hp.2.2.2.1; have h13 : FL _ 13 1 4 := hp.2.2.2.2.2.2.1) | (rw [hb0] at hp; have hln := hp.1) | skip))
                  | (obtain ⟨Z', (o : Nat), rfl, rfl, hI2, hk2, ⟨⟨hp, rfl⟩ | ⟨hp, rfl⟩, -⟩⟩ := hq <;> ((first | have hk3 := kp_to (by first | with_reducible assumption | assumption) (by rfl) hk2 | have hk3 := ks_to (by first | with_reducible assumption | assumption) (by rfl) hk2); (try have hb0 := hb); (try have hb := (bC_kp hk2 (by rfl)).trans hb); (first | have := kpF 6 3 hk2 (by rfl) | have := ksF 6 3 hk2 (by rfl) | skip); (try dsimp only at this); (first | have := kpF 6 4 hk2 (by rfl) | have := ksF 6 4 hk2 (by rfl) | skip); (try dsimp only at this); (first | have := kpF 6 1 hk2 (by rfl) | have := ksF 6 1 hk2 (by rfl) | skip); (try dsimp only at this); (first | have := kpF 8 0 hk2 (by rfl) | have := ksF 8 0 hk2 (by rfl) | skip); (try dsimp only at this); (first | have := kpF 8 1 hk2 (by rfl) | have := ksF 8 1 hk2 (by rfl) | skip); (try dsimp only at this); clear hk2))
                  | (obtain ⟨Z', x, rfl, rfl, hI2, hk2, hp⟩ := hq; (try replace hp : _ ∧ _ := hp); (try dsimp only at hp); (first | have hk3 := kp_to (by first | with_reducible assumption | assumption) (by rfl) hk2 | have hk3 := ks_to (by first | with_reducible assumption | assumption) (by rfl) hk2); (try have hb0 := hb); (try have hb := (bC_kp hk2 (by rfl)).trans hb); (first | have := kpF 6 3 hk2 (by rfl) | have := ksF 6 3 hk2 (by rfl) | skip); (try dsimp only at this); (first | have := kpF 6 4 hk2 (by rfl) | have := ksF 6 4 hk2 (by rfl) | skip); (try dsimp only at this); (first | have := kpF 6 1 hk2 (by rfl) | have := ksF 6 1 hk2 (by rfl) | skip); (try dsimp only at this); (first | have := kpF 8 0 hk2 (by rfl) | have := ksF 8 0 hk2 (by rfl) | skip); (try dsimp only at this); (first | have := kpF 8 1 hk2 (by rfl) | have := ksF 8 1 hk2 (by rfl) | skip); (try dsimp only at this); clear hk2; (first | (have hc9 : OI _ 9 4 := hp.2.2.1; have h9 := hc9; have h10 : FL _ 10 (-1) 4 := hp.2.2.2.1; have h13 : FL _ 13 1 4 := hp.2.2.2.2.2.2.1) | (rw [hb0] at hp; have hln := hp.1) | skip))
                  | (obtain ⟨Z', rfl, rfl, hI2, hk2, hp⟩ := hq; (try replace hp : _ ∧ _ := hp); (try dsimp only at hp); (first | have hk3 := kp_to (by first | with_reducible assumption | assumption) (by rfl) hk2 | have hk3 := ks_to (by first | with_reducible assumption | assumption) (by rfl) hk2); (try have hb0 := hb); (try have hb := (bC_kp hk2 (by rfl)).trans hb); (first | have := kpF 6 3 hk2 (by rfl) | have := ksF 6 3 hk2 (by rfl) | skip); (try dsimp only at this); (first | have := kpF 6 4 hk2 (by rfl) | have := ksF 6 4 hk2 (by rfl) | skip); (try dsimp only at this); (first | have := kpF 6 1 hk2 (by rfl) | have := ksF 6 1 hk2 (by rfl) | skip); (try dsimp only at this); (first | have := kpF 8 0 hk2 (by rfl) | have := ksF 8 0 hk2 (by rfl) | skip); (try dsimp only at this); (first | have := kpF 8 1 hk2 (by rfl) | have := ksF 8 1 hk2 (by rfl) | skip); (try dsimp only at this); clear hk2; (first | (have hc9 : OI _ 9 4 := hp.2.2.1; have h9 := hc9; have h10 : FL _ 10 (-1) 4 := hp.2.2.2.1; have h13 : FL _ 13 1 4 := hp.2.2.2.2.2.2.1) | (rw [hb0] at hp; have hln := hp.1) | skip))
                  | (obtain ⟨rfl, rfl⟩ := hq)
                  | (obtain ⟨Z', x, rfl, rfl, hI2, hk2⟩ := hq; have hkn := keeps_nil hk2; clear hk2; subst hkn)
                  | (obtain ⟨Z', x, rfl, rfl, hI2, hk2⟩ := hq; (first | have hk3 := kp_to (by first | with_reducible assumption | assumption) (by rfl) hk2 | have hk3 := ks_to (by first | with_reducible assumption | assumption) (by rfl) hk2); (try have hb0 := hb); (try have hb := (bC_kp hk2 (by rfl)).trans hb); (first | have := kpF 6 3 hk2 (by rfl) | have := ksF 6 3 hk2 (by rfl) | skip); (try dsimp only at this); (first | have := kpF 6 4 hk2 (by rfl) | have := ksF 6 4 hk2 (by rfl) | skip); (try dsimp only at this); (first | have := kpF 6 1 hk2 (by rfl) | have := ksF 6 1 hk2 (by rfl) | skip); (try dsimp only at this); (first | have := kpF 8 0 hk2 (by rfl) | have := ksF 8 0 hk2 (by rfl) | skip); (try dsimp only at this); (first | have := kpF 8 1 hk2 (by rfl) | have := ksF 8 1 hk2 (by rfl) | skip); (try dsimp only at this); clear hk2)
                  | (rcases hq with ⟨Z', rfl, rfl, hI2, hk2⟩ | ⟨Z', rfl, rfl, hI2, hk2⟩ <;> ((first | have hk3 := kp_to (by first | with_reducible assumption | assumption) (by rfl) hk2 | have hk3 := ks_to (by first | with_reducible assumption | assumption) (by rfl) hk2); (try have hb0 := hb); (try have hb := (bC_kp hk2 (by rfl)).trans hb); (first | have := kpF 6 3 hk2 (by rfl) | have := ksF 6 3 hk2 (by rfl) | skip); (try dsimp only at this); (first | have := kpF 6 4 hk2 (by rfl) | have := ksF 6 4 hk2 (by rfl) | skip); (try dsimp only at this); (first | have := kpF 6 1 hk2 (by rfl) | have := ksF 6 1 hk2 (by rfl) | skip); (try dsimp only at this); (first | have := kpF 8 0 hk2 (by rfl) | have := ksF 8 0 hk2 (by rfl) | skip); (try dsimp only at this); (first | have := kpF 8 1 hk2 (by rfl) | have := ksF 8 1 hk2 (by rfl) | skip); (try dsimp only at this); clear hk2))
                  | (obtain ⟨Z', rfl, rfl, hI2, hk2⟩ := hq; (first | have hk3 := kp_to (by first | with_reducible assumption | assumption) (by rfl) hk2 | have hk3 := ks_to (by first | with_reducible assumption | assumption) (by rfl) hk2); (try have hb0 := hb); (try have hb := (bC_kp hk2 (by rfl)).trans hb); (first | have := kpF 6 3 hk2 (by rfl) | have := ksF 6 3 hk2 (by rfl) | skip); (try dsimp only at this); (first | have := kpF 6 4 hk2 (by rfl) | have := ksF 6 4 hk2 (by rfl) | skip); (try dsimp only at this); (first | have := kpF 6 1 hk2 (by rfl) | have := ksF 6 1 hk2 (by rfl) | skip); (try dsimp only at this); (first | have := kpF 8 0 hk2 (by rfl) | have := ksF 8 0 hk2 (by rfl) | skip); (try dsimp only at this); (first | have := kpF 8 1 hk2 (by rfl) | have := ksF 8 1 hk2 (by rfl) | skip); (try dsimp only at this); clear hk2))
               | (intro hc; (try simp only [cmp3_c] at hc); simp only [cmpI] at hc)
               | (show CI _; assumption)
               | intro (_ : Int)
               | intro (Z' : ZT)
               | intro (_ : CI _)
               | (intro (hkk : kp _ _ _))
               | intro (_ : _ ≤ _)
               | (intro (hup : _ = upZ _ _ _ _); (try dsimp only at hup); (first | have := (congrFun (congrFun hup 6) 3).trans (up_ne (by decide)) | have := (congrFun (congrFun hup 6) 3).trans (up_nk (o := 6) (by decide)) | skip); (first | have := (congrFun (congrFun hup 6) 4).trans (up_ne (by decide)) | have := (congrFun (congrFun hup 6) 4).trans (up_nk (o := 6) (by decide)) | skip); (first | have := (congrFun (congrFun hup 6) 1).trans (up_ne (by decide)) | have := (congrFun (congrFun hup 6) 1).trans (up_nk (o := 6) (by decide)) | skip); (first | have := (congrFun (congrFun hup 8) 0).trans (up_ne (by decide)) | have := (congrFun (congrFun hup 8) 0).trans (up_nk (o := 8) (by decide)) | skip); (first | have := (congrFun (congrFun hup 8) 1).trans (up_ne (by decide)) | have := (congrFun (congrFun hup 8) 1).trans (up_nk (o := 8) (by decide)) | skip); (try have hb := (bC_up hup (by decide) (by intro hz; first | exact absurd hz (by decide) | decide | omega)).trans hb); (try have h9 := OI_o (up_o hup (by decide)) h9); (try have h10 := FL_o (up_o hup (by decide)) h10); (try have h13 := FL_o (up_o hup (by decide)) h13))
               | (intro (hld : _ = _); (try dsimp only at hld); (try simp only [Nat.reduceAdd] at hld))
               | intro (_ : _ < _)
               | intro (_ : _ ≠ _)
               | intro (_ : _ ∨ _)))
        all_goals first
          | ((with_reducible show G 14 _ _ _); refine hG.2 14 _ [(0, vr 6), (1, vi _)] _ _ rfl ?_)
          | ((fail_if_success (first | (with_reducible show _ ≤ _) | (with_reducible show _ = _) | (with_reducible show _ ∨ _) | (with_reducible show _ < _))); first | refine hG.2 14 _ [(0, vr 6), (1, vi _)] _ _ rfl ?_)
          | skip
        all_goals first
          | with_reducible rfl
          | ((with_reducible show _ = _); rfl)
          | ((with_reducible show recvG _ _); rfl)
          | ((with_reducible show G 14 _ _ _); refine ih14 _ _ ?_ ?_ ?_ ?_; assumption; assumption; (refine ⟨?_, ?_, ?_, ?_, ?_, ?_, ?_, trivial⟩; (first | done | focus (first | (dsimp only; done) | ((try dsimp only); (first | omega | (refine ⟨?_, ?_⟩ <;> (first | omega | ((try dsimp only); (first | omega | (simp (disch := omega) only [w32_id, w64_id]; omega) | (simp only [w32, w64]; omega) | (with_reducible refine (and32_le ?_ ?_).1 <;> omega) | (with_reducible refine (and32_le ?_ ?_).2 <;> omega) | (with_reducible refine (mulR ?_ ?_ ?_ ?_).1 <;> omega) | (with_reducible refine (mulR ?_ ?_ ?_ ?_).2 <;> omega) | (simp only [w32, w64] at *; omega) | (simp (disch := omega) only [w32_id, w64_id] at *; omega) | (simp (disch := omega) only [tdiv_nn, tmod_nn, w32_id, w64_id] at *; omega) | (subst_vars; simp [upZ] at *; omega) | (subst_vars; simp [upZ] at *; simp only [w32, w64] at *; omega))) | fail)) | (first | omega | ((try dsimp only); (first | omega | (simp (disch := omega) only [w32_id, w64_id]; omega) | (simp only [w32, w64]; omega) | (with_reducible refine (and32_le ?_ ?_).1 <;> omega) | (with_reducible refine (and32_le ?_ ?_).2 <;> omega) | (with_reducible refine (mulR ?_ ?_ ?_ ?_).1 <;> omega) | (with_reducible refine (mulR ?_ ?_ ?_ ?_).2 <;> omega) | (simp only [w32, w64] at *; omega) | (simp (disch := omega) only [w32_id, w64_id] at *; omega) | (simp (disch := omega) only [tdiv_nn, tmod_nn, w32_id, w64_id] at *; omega) | (subst_vars; simp [upZ] at *; omega) | (subst_vars; simp [upZ] at *; simp only [w32, w64] at *; omega))) | fail) | fail)))); (first | done | focus (first | (dsimp only; done) | ((try dsimp only); ((first | with_reducible assumption | (exact RDL_0 rfl (by omega) (by omega) h9 h10) | (rcases hln with ⟨hx, hB, hE, hW, hO, hU, h3, hz1, hz2⟩ | ⟨hx, -⟩ <;> first | (exfalso; omega) | exact (RD_step (len := Z 6 1) rfl (by omega) (by first | omega | (simp (disch := omega) only [w32_id]; first | done | omega)) w1 w2 hr1.1 (by omega) hB hE hW hO h3 hu1.1).1) | fail))))); (first | done | focus (first | (dsimp only; done) | ((try dsimp only); ((first | with_reducible assumption | ((show _ = (0 : Int)); omega) | (rcases hln with ⟨hx, hB, hE, hW, hO, hU, h3, hz1, hz2⟩ | ⟨hx, -⟩ <;> first | (exfalso; omega) | exact (RD_step (len := Z 6 1) rfl (by omega) (by first | omega | (simp (disch := omega) only [w32_id]; first | done | omega)) w1 w2 hr1.1 (by omega) hB hE hW hO h3 hu1.1).2.1) | fail))))); (first | done | focus (first | (dsimp only; done) | ((try dsimp only); ((first | with_reducible assumption | ((intro i hi; exact absurd hi (Nat.not_lt_zero i))) | (rcases hln with ⟨hx, hB, hE, hW, hO, hU, h3, hz1, hz2⟩ | ⟨hx, -⟩ <;> first | (exfalso; omega) | exact (RD_step (len := Z 6 1) rfl (by omega) (by first | omega | (simp (disch := omega) only [w32_id]; first | done | omega)) w1 w2 hr1.1 (by omega) hB hE hW hO h3 hu1.1).2.2 w3) | fail))))); (first | done | focus (first | (dsimp only; done) | ((try dsimp only); ((first | with_reducible assumption | (exact UL_0 h13) | (rcases hln with ⟨hx, hB, hE, hW, hO, hU, h3, hz1, hz2⟩ | ⟨hx, -⟩ <;> first | (exfalso; omega) | exact hU) | fail))))); (first | done | focus (first | (dsimp only; done) | ((try dsimp only); ((first | with_reducible assumption | (omega) | (rcases hln with ⟨hx, hB, hE, hW, hO, hU, h3, hz1, hz2⟩ | ⟨hx, -⟩ <;> omega) | fail))))); (first | done | focus (first | (dsimp only; done) | ((try dsimp only); ((first | with_reducible assumption | (omega) | fail)))))); (first | omega | ((try dsimp only); (first | omega | (simp (disch := omega) only [w32_id, w64_id]; omega) | (simp only [w32, w64]; omega) | (with_reducible refine (and32_le ?_ ?_).1 <;> omega) | (with_reducible refine (and32_le ?_ ?_).2 <;> omega) | (with_reducible refine (mulR ?_ ?_ ?_ ?_).1 <;> omega) | (with_reducible refine (mulR ?_ ?_ ?_ ?_).2 <;> omega) | (simp only [w32, w64] at *; omega) | (simp (disch := omega) only [w32_id, w64_id] at *; omega) | (simp (disch := omega) only [tdiv_nn, tmod_nn, w32_id, w64_id] at *; omega) | (subst_vars; simp [upZ] at *; omega) | (subst_vars; simp [upZ] at *; simp only [w32, w64] at *; omega))) | fail))
          | with_reducible exact trivial
          | with_reducible assumption
          | ((fail_if_success (first | (with_reducible show _ ≤ _) | (with_reducible show _ = _) | (with_reducible show _ ∨ _) | (with_reducible show _ < _) | (with_reducible show G _ _ _ _))); (refine Exists.intro _ (Exists.intro _ (And.intro rfl (And.intro rfl ?_))); refine ⟨by assumption, by assumption, ?_⟩; (refine ⟨?_, trivial⟩; (first | done | focus (first | (dsimp only; done) | ((try dsimp only); ((first | (have e : Z1 6 3 = _ := w2; exact ⟨v1.toNat, ⟨w3, Or.inl ⟨by omega, by omega⟩⟩, fun _ => w1⟩) | (exfalso; have := w1.1; omega) | (rcases hln with ⟨hx, -⟩ | ⟨hx, hn, hw⟩ <;> first | (exfalso; omega) | exact ⟨v1.toNat, RD_f w1 w2 hr1.1 (by omega) hn (by omega) w3⟩) | fail))))))))
          | ((fail_if_success (first | (with_reducible show _ ≤ _) | (with_reducible show _ = _) | (with_reducible show _ ∨ _) | (with_reducible show _ < _) | (with_reducible show G _ _ _ _))); (refine Exists.intro _ (Exists.intro _ (And.intro rfl (And.intro rfl ?_))); refine ⟨by assumption, by assumption, ?_⟩; simp only [Nat.reduceAdd] at *; (refine ⟨?_, trivial⟩; (first | done | focus (first | (dsimp only; done) | ((try dsimp only); ((first | (have e : Z1 6 3 = _ := w2; exact ⟨v1.toNat, ⟨w3, Or.inl ⟨by omega, by omega⟩⟩, fun _ => w1⟩) | (exfalso; have := w1.1; omega) | (rcases hln with ⟨hx, -⟩ | ⟨hx, hn, hw⟩ <;> first | (exfalso; omega) | exact ⟨v1.toNat, RD_f w1 w2 hr1.1 (by omega) hn (by omega) w3⟩) | fail))))))))
          | omega
          | (dsimp only; omega)
          | decide
          | (show (0 : Int) < _; omega)
          | (show (0 : Int) < _; simp only [w64] at *; omega)
          | (simp only [w32, w64] at *; omega)
          | (first | omega | ((try dsimp only); (first | omega | (simp (disch := omega) only [w32_id, w64_id]; omega) | (simp only [w32, w64]; omega) | (with_reducible refine (and32_le ?_ ?_).1 <;> omega) | (with_reducible refine (and32_le ?_ ?_).2 <;> omega) | (with_reducible refine (mulR ?_ ?_ ?_ ?_).1 <;> omega) | (with_reducible refine (mulR ?_ ?_ ?_ ?_).2 <;> omega) | (simp only [w32, w64] at *; omega) | (simp (disch := omega) only [w32_id, w64_id] at *; omega) | (simp (disch := omega) only [tdiv_nn, tmod_nn, w32_id, w64_id] at *; omega) | (subst_vars; simp [upZ] at *; omega) | (subst_vars; simp [upZ] at *; simp only [w32, w64] at *; omega))) | fail)
          | ((with_reducible show swT _ _ _ _); exact trivial)
          | rfl
          | skip
  have hb : bC Z = bC Z := rfl
  refine wq_run hG n R0 [14] 900 _ _ _ _ ?_
  repeat' (first
      | with_reducible rfl
      | ((with_reducible show BYT _); rw [hb]; exact q0)
      | ((with_reducible show ORD _ _); exact hord)
      | refine And.intro ?_ ?_
      | with_reducible exact True.intro
      | ((with_reducible show _ = true); rfl)
      | ((with_reducible show recvG _ _); rfl)
      | ((with_reducible show CI _); first | with_reducible assumption | assumption)
      | (fail_if_success (first | (with_reducible show _ ≤ _) | (with_reducible show _ = _) | (with_reducible show _ ∨ _) | (with_reducible show _ < _) | (with_reducible show G _ _ _ _))
         first
         | show G _ _ _ _
         | (refine ld_bnd (by first | with_reducible assumption | assumption) rfl ?_; intro _ _ _ hld; (try dsimp only at hld); (try simp only [Nat.reduceAdd] at hld))
         | (refine st_k (by first | with_reducible assumption | assumption) (by first | with_reducible assumption | assumption) (by first | exact Or.inl (by decide) | exact Or.inr (by decide)) (fun lo hi hb => by first | (cases hb; done) | (cases hb; constructor <;> (first | omega | ((try dsimp only); (first | omega | (simp (disch := omega) only [w32_id, w64_id]; omega) | (simp only [w32, w64]; omega) | (with_reducible refine (and32_le ?_ ?_).1 <;> omega) | (with_reducible refine (and32_le ?_ ?_).2 <;> omega) | (with_reducible refine (mulR ?_ ?_ ?_ ?_).1 <;> omega) | (with_reducible refine (mulR ?_ ?_ ?_ ?_).2 <;> omega) | (simp only [w32, w64] at *; omega) | (simp (disch := omega) only [w32_id, w64_id] at *; omega) | (simp (disch := omega) only [tdiv_nn, tmod_nn, w32_id, w64_id] at *; omega) | (subst_vars; simp [upZ] at *; omega) | (subst_vars; simp [upZ] at *; simp only [w32, w64] at *; omega))) | fail))) ?_; intro Z' _ hkk; intro hld; (try dsimp only at hld); (try simp only [Nat.reduceAdd] at hld); intro hup; (try dsimp only at hup); (first | have := (congrFun (congrFun hup 6) 3).trans (up_ne (by decide)) | have := (congrFun (congrFun hup 6) 3).trans (up_nk (o := 6) (by decide)) | skip); (first | have := (congrFun (congrFun hup 6) 4).trans (up_ne (by decide)) | have := (congrFun (congrFun hup 6) 4).trans (up_nk (o := 6) (by decide)) | skip); (first | have := (congrFun (congrFun hup 6) 1).trans (up_ne (by decide)) | have := (congrFun (congrFun hup 6) 1).trans (up_nk (o := 6) (by decide)) | skip); (first | have := (congrFun (congrFun hup 8) 0).trans (up_ne (by decide)) | have := (congrFun (congrFun hup 8) 0).trans (up_nk (o := 8) (by decide)) | skip); (first | have := (congrFun (congrFun hup 8) 1).trans (up_ne (by decide)) | have := (congrFun (congrFun hup 8) 1).trans (up_nk (o := 8) (by decide)) | skip); (try have hb := (bC_up hup (by decide) (by intro hz; first | exact absurd hz (by decide) | decide | omega)).trans hb); (try have h9 := OI_o (up_o hup (by decide)) h9); (try have h10 := FL_o (up_o hup (by decide)) h10); (try have h13 := FL_o (up_o hup (by decide)) h13))
         | (refine st_k (by first | with_reducible assumption | assumption) (by first | with_reducible assumption | assumption) (by first | exact Or.inl (by decide) | exact Or.inr (by decide)) (fun lo hi hb => ?_) ?_; (cases hb; refine And.intro ?_ ?_))
         | refine st_same ?_
         | (intro (r : Option PV) σ' hq
            first
            | (obtain ⟨rfl, x, rfl, hp⟩ := hq; (try replace hp : _ ∧ _ := hp); (try dsimp only at hp); (first | (have hc9 : OI _ 9 4 := hp.2.2.1; have h9 := hc9; have h10 : FL _ 10 (-1) 4 := hp.2.2.2.1; have h13 : FL _ 13 1 4 := hp.2.2.2.2.2.2.1) | (rw [hb0] at hp; have hln := hp.1) | skip))
            | (obtain ⟨Z', (o : Nat), rfl, rfl, hI2, hk2, ⟨⟨hp, rfl⟩ | ⟨hp, rfl⟩, -⟩⟩ := hq <;> ((first | have hk3 := kp_to (by first | with_reducible assumption | assumption) (by rfl) hk2 | have hk3 := ks_to (by first | with_reducible assumption | assumption) (by rfl) hk2); (try have hb0 := hb); (try have hb := (bC_kp hk2 (by rfl)).trans hb); (first | have := kpF 6 3 hk2 (by rfl) | have := ksF 6 3 hk2 (by rfl) | skip); (try dsimp only at this); (first | have := kpF 6 4 hk2 (by rfl) | have := ksF 6 4 hk2 (by rfl) | skip); (try dsimp only at this); (first | have := kpF 6 1 hk2 (by rfl) | have := ksF 6 1 hk2 (by rfl) | skip); (try dsimp only at this); (first | have := kpF 8 0 hk2 (by rfl) | have := ksF 8 0 hk2 (by rfl) | skip); (try dsimp only at this); (first | have := kpF 8 1 hk2 (by rfl) | have := ksF 8 1 hk2 (by rfl) | skip); (try dsimp only at this); clear hk2))
            | (obtain ⟨Z', x, rfl, rfl, hI2, hk2, hp⟩ := hq; (try replace hp : _ ∧ _ := hp); (try dsimp only at hp); (first | have hk3 := kp_to (by first | with_reducible assumption | assumption) (by rfl) hk2 | have hk3 := ks_to (by first | with_reducible assumption | assumption) (by rfl) hk2); (try have hb0 := hb); (try have hb := (bC_kp hk2 (by rfl)).trans hb); (first | have := kpF 6 3 hk2 (by rfl) | have := ksF 6 3 hk2 (by rfl) | skip); (try dsimp only at this); (first | have := kpF 6 4 hk2 (by rfl) | have := ksF 6 4 hk2 (by rfl) | skip); (try dsimp only at this); (first | have := kpF 6 1 hk2 (by rfl) | have := ksF 6 1 hk2 (by rfl) | skip); (try dsimp only at this); (first | have := kpF 8 0 hk2 (by rfl) | have := ksF 8 0 hk2 (by rfl) | skip); (try dsimp only at this); (first | have := kpF 8 1 hk2 (by rfl) | have := ksF 8 1 hk2 (by rfl) | skip); (try dsimp only at this); clear hk2; (first | (have hc9 : OI _ 9 4 := hp.2.2.1; have h9 := hc9; have h10 : FL _ 10 (-1) 4 := hp.2.2.2.1; have h13 : FL _ 13 1 4 := hp.2.2.2.2.2.2.1) | (rw [hb0] at hp; have hln := hp.1) | skip))
            | (obtain ⟨Z', rfl, rfl, hI2, hk2, hp⟩ := hq; (try replace hp : _ ∧ _ := hp); (try dsimp only at hp); (first | have hk3 := kp_to (by first | with_reducible assumption | assumption) (by rfl) hk2 | have hk3 := ks_to (by first | with_reducible assumption | assumption) (by rfl) hk2); (try have hb0 := hb); (try have hb := (bC_kp hk2 (by rfl)).trans hb); (first | have := kpF 6 3 hk2 (by rfl) | have := ksF 6 3 hk2 (by rfl) | skip); (try dsimp only at this); (first | have := kpF 6 4 hk2 (by rfl) | have := ksF 6 4 hk2 (by rfl) | skip); (try dsimp only at this); (first | have := kpF 6 1 hk2 (by rfl) | have := ksF 6 1 hk2 (by rfl) | skip); (try dsimp only at this); (first | have := kpF 8 0 hk2 (by rfl) | have := ksF 8 0 hk2 (by rfl) | skip); (try dsimp only at this); (first | have := kpF 8 1 hk2 (by rfl) | have := ksF 8 1 hk2 (by rfl) | skip); (try dsimp only at this); clear hk2; (first | (have hc9 : OI _ 9 4 := hp.2.2.1; have h9 := hc9; have h10 : FL _ 10 (-1) 4 := hp.2.2.2.1; have h13 : FL _ 13 1 4 := hp.2.2.2.2.2.2.1) | (rw [hb0] at hp; have hln := hp.1) | skip))
            | (obtain ⟨rfl, rfl⟩ := hq)
            | (obtain ⟨Z', x, rfl, rfl, hI2, hk2⟩ := hq; have hkn := keeps_nil hk2; clear hk2; subst hkn)
            | (obtain ⟨Z', x, rfl, rfl, hI2, hk2⟩ := hq; (first | have hk3 := kp_to (by first | with_reducible assumption | assumption) (by rfl) hk2 | have hk3 := ks_to (by first | with_reducible assumption | assumption) (by rfl) hk2); (try have hb0 := hb); (try have hb := (bC_kp hk2 (by rfl)).trans hb); (first | have := kpF 6 3 hk2 (by rfl) | have := ksF 6 3 hk2 (by rfl) | skip); (try dsimp only at this); (first | have := kpF 6 4 hk2 (by rfl) | have := ksF 6 4 hk2 (by rfl) | skip); (try dsimp only at this); (first | have := kpF 6 1 hk2 (by rfl) | have := ksF 6 1 hk2 (by rfl) | skip); (try dsimp only at this); (first | have := kpF 8 0 hk2 (by rfl) | have := ksF 8 0 hk2 (by rfl) | skip); (try dsimp only at this); (first | have := kpF 8 1 hk2 (by rfl) | have := ksF 8 1 hk2 (by rfl) | skip); (try dsimp only at this); clear hk2)
            | (rcases hq with ⟨Z', rfl, rfl, hI2, hk2⟩ | ⟨Z', rfl, rfl, hI2, hk2⟩ <;> ((first | have hk3 := kp_to (by first | with_reducible assumption | assumption) (by rfl) hk2 | have hk3 := ks_to (by first | with_reducible assumption | assumption) (by rfl) hk2); (try have hb0 := hb); (try have hb := (bC_kp hk2 (by rfl)).trans hb); (first | have := kpF 6 3 hk2 (by rfl) | have := ksF 6 3 hk2 (by rfl) | skip); (try dsimp only at this); (first | have := kpF 6 4 hk2 (by rfl) | have := ksF 6 4 hk2 (by rfl) | skip); (try dsimp only at this); (first | have := kpF 6 1 hk2 (by rfl) | have := ksF 6 1 hk2 (by rfl) | skip); (try dsimp only at this); (first | have := kpF 8 0 hk2 (by rfl) | have := ksF 8 0 hk2 (by rfl) | skip); (try dsimp only at this); (first | have := kpF 8 1 hk2 (by rfl) | have := ksF 8 1 hk2 (by rfl) | skip); (try dsimp only at this); clear hk2))
            | (obtain ⟨Z', rfl, rfl, hI2, hk2⟩ := hq; (first | have hk3 := kp_to (by first | with_reducible assumption | assumption) (by rfl) hk2 | have hk3 := ks_to (by first | with_reducible assumption | assumption) (by rfl) hk2); (try have hb0 := hb); (try have hb := (bC_kp hk2 (by rfl)).trans hb); (first | have := kpF 6 3 hk2 (by rfl) | have := ksF 6 3 hk2 (by rfl) | skip); (try dsimp only at this); (first | have := kpF 6 4 hk2 (by rfl) | have := ksF 6 4 hk2 (by rfl) | skip); (try dsimp only at this); (first | have := kpF 6 1 hk2 (by rfl) | have := ksF 6 1 hk2 (by rfl) | skip); (try dsimp only at this); (first | have := kpF 8 0 hk2 (by rfl) | have := ksF 8 0 hk2 (by rfl) | skip); (try dsimp only at this); (first | have := kpF 8 1 hk2 (by rfl) | have := ksF 8 1 hk2 (by rfl) | skip); (try dsimp only at this); clear hk2))
         | (intro hc; (try simp only [cmp3_c] at hc); simp only [cmpI] at hc)
         | (show CI _; assumption)
         | intro (_ : Int)
         | intro (Z' : ZT)
         | intro (_ : CI _)
         | (intro (hkk : kp _ _ _))
         | intro (_ : _ ≤ _)
         | (intro (hup : _ = upZ _ _ _ _); (try dsimp only at hup); (first | have := (congrFun (congrFun hup 6) 3).trans (up_ne (by decide)) | have := (congrFun (congrFun hup 6) 3).trans (up_nk (o := 6) (by decide)) | skip); (first | have := (congrFun (congrFun hup 6) 4).trans (up_ne (by decide)) | have := (congrFun (congrFun hup 6) 4).trans (up_nk (o := 6) (by decide)) | skip); (first | have := (congrFun (congrFun hup 6) 1).trans (up_ne (by decide)) | have := (congrFun (congrFun hup 6) 1).trans (up_nk (o := 6) (by decide)) | skip); (first | have := (congrFun (congrFun hup 8) 0).trans (up_ne (by decide)) | have := (congrFun (congrFun hup 8) 0).trans (up_nk (o := 8) (by decide)) | skip); (first | have := (congrFun (congrFun hup 8) 1).trans (up_ne (by decide)) | have := (congrFun (congrFun hup 8) 1).trans (up_nk (o := 8) (by decide)) | skip); (try have hb := (bC_up hup (by decide) (by intro hz; first | exact absurd hz (by decide) | decide | omega)).trans hb); (try have h9 := OI_o (up_o hup (by decide)) h9); (try have h10 := FL_o (up_o hup (by decide)) h10); (try have h13 := FL_o (up_o hup (by decide)) h13))
         | (intro (hld : _ = _); (try dsimp only at hld); (try simp only [Nat.reduceAdd] at hld))
         | intro (_ : _ < _)
         | intro (_ : _ ≠ _)
         | intro (_ : _ ∨ _)))
  all_goals (have lp14 := loop 1000000)
  all_goals first
    | ((with_reducible show G 14 _ _ _); refine hG.2 14 _ [(0, vr 6), (1, vi _)] _ _ rfl ?_)
    | ((fail_if_success (first | (with_reducible show _ ≤ _) | (with_reducible show _ = _) | (with_reducible show _ ∨ _) | (with_reducible show _ < _))); first | refine hG.2 14 _ [(0, vr 6), (1, vi _)] _ _ rfl ?_)
    | skip
  all_goals first
    | with_reducible rfl
    | ((with_reducible show _ = _); rfl)
    | ((with_reducible show recvG _ _); rfl)
    | ((with_reducible show G 14 _ _ _); refine lp14 _ _ ?_ ?_ ?_ ?_; assumption; assumption; (refine ⟨?_, ?_, ?_, ?_, ?_, ?_, ?_, trivial⟩; (first | done | focus (first | (dsimp only; done) | ((try dsimp only); (first | omega | (refine ⟨?_, ?_⟩ <;> (first | omega | ((try dsimp only); (first | omega | (simp (disch := omega) only [w32_id, w64_id]; omega) | (simp only [w32, w64]; omega) | (with_reducible refine (and32_le ?_ ?_).1 <;> omega) | (with_reducible refine (and32_le ?_ ?_).2 <;> omega) | (with_reducible refine (mulR ?_ ?_ ?_ ?_).1 <;> omega) | (with_reducible refine (mulR ?_ ?_ ?_ ?_).2 <;> omega) | (simp only [w32, w64] at *; omega) | (simp (disch := omega) only [w32_id, w64_id] at *; omega) | (simp (disch := omega) only [tdiv_nn, tmod_nn, w32_id, w64_id] at *; omega) | (subst_vars; simp [upZ] at *; omega) | (subst_vars; simp [upZ] at *; simp only [w32, w64] at *; omega))) | fail)) | (first | omega | ((try dsimp only); (first | omega | (simp (disch := omega) only [w32_id, w64_id]; omega) | (simp only [w32, w64]; omega) | (with_reducible refine (and32_le ?_ ?_).1 <;> omega) | (with_reducible refine (and32_le ?_ ?_).2 <;> omega) | (with_reducible refine (mulR ?_ ?_ ?_ ?_).1 <;> omega) | (with_reducible refine (mulR ?_ ?_ ?_ ?_).2 <;> omega) | (simp only [w32, w64] at *; omega) | (simp (disch := omega) only [w32_id, w64_id] at *; omega) | (simp (disch := omega) only [tdiv_nn, tmod_nn, w32_id, w64_id] at *; omega) | (subst_vars; simp [upZ] at *; omega) | (subst_vars; simp [upZ] at *; simp only [w32, w64] at *; omega))) | fail) | fail)))); (first | done | focus (first | (dsimp only; done) | ((try dsimp only); ((first | with_reducible assumption | (exact RDL_0 rfl (by omega) (by omega) h9 h10) | (rcases hln with ⟨hx, hB, hE, hW, hO, hU, h3, hz1, hz2⟩ | ⟨hx, -⟩ <;> first | (exfalso; omega) | exact (RD_step (len := Z 6 1) rfl (by omega) (by first | omega | (simp (disch := omega) only [w32_id]; first | done | omega)) w1 w2 hr1.1 (by omega) hB hE hW hO h3 hu1.1).1) | fail))))); (first | done | focus (first | (dsimp only; done) | ((try dsimp only); ((first | with_reducible assumption | ((show _ = (0 : Int)); omega) | (rcases hln with ⟨hx, hB, hE, hW, hO, hU, h3, hz1, hz2⟩ | ⟨hx, -⟩ <;> first | (exfalso; omega) | exact (RD_step (len := Z 6 1) rfl (by omega) (by first | omega | (simp (disch := omega) only [w32_id]; first | done | omega)) w1 w2 hr1.1 (by omega) hB hE hW hO h3 hu1.1).2.1) | fail))))); (first | done | focus (first | (dsimp only; done) | ((try dsimp only); ((first | with_reducible assumption | ((intro i hi; exact absurd hi (Nat.not_lt_zero i))) | (rcases hln with ⟨hx, hB, hE, hW, hO, hU, h3, hz1, hz2⟩ | ⟨hx, -⟩ <;> first | (exfalso; omega) | exact (RD_step (len := Z 6 1) rfl (by omega) (by first | omega | (simp (disch := omega) only [w32_id]; first | done | omega)) w1 w2 hr1.1 (by omega) hB hE hW hO h3 hu1.1).2.2 w3) | fail))))); (first | done | focus (first | (dsimp only; done) | ((try dsimp only); ((first | with_reducible assumption | (exact UL_0 h13) | (rcases hln with ⟨hx, hB, hE, hW, hO, hU, h3, hz1, hz2⟩ | ⟨hx, -⟩ <;> first | (exfalso; omega) | exact hU) | fail))))); (first | done | focus (first | (dsimp only; done) | ((try dsimp only); ((first | with_reducible assumption | (omega) | (rcases hln with ⟨hx, hB, hE, hW, hO, hU, h3, hz1, hz2⟩ | ⟨hx, -⟩ <;> omega) | fail))))); (first | done | focus (first | (dsimp only; done) | ((try dsimp only); ((first | with_reducible assumption | (omega) | fail)))))); (first | omega | ((try dsimp only); (first | omega | (simp (disch := omega) only [w32_id, w64_id]; omega) | (simp only [w32, w64]; omega) | (with_reducible refine (and32_le ?_ ?_).1 <;> omega) | (with_reducible refine (and32_le ?_ ?_).2 <;> omega) | (with_reducible refine (mulR ?_ ?_ ?_ ?_).1 <;> omega) | (with_reducible refine (mulR ?_ ?_ ?_ ?_).2 <;> omega) | (simp only [w32, w64] at *; omega) | (simp (disch := omega) only [w32_id, w64_id] at *; omega) | (simp (disch := omega) only [tdiv_nn, tmod_nn, w32_id, w64_id] at *; omega) | (subst_vars; simp [upZ] at *; omega) | (subst_vars; simp [upZ] at *; simp only [w32, w64] at *; omega))) | fail))
    | with_reducible exact trivial
    | with_reducible assumption
    | ((fail_if_success (first | (with_reducible show _ ≤ _) | (with_reducible show _ = _) | (with_reducible show _ ∨ _) | (with_reducible show _ < _) | (with_reducible show G _ _ _ _))); (refine Exists.intro _ (Exists.intro _ (And.intro rfl (And.intro rfl ?_))); refine ⟨by assumption, by assumption, ?_⟩; (refine ⟨?_, trivial⟩; (first | done | focus (first | (dsimp only; done) | ((try dsimp only); ((first | (have e : Z1 6 3 = _ := w2; exact ⟨v1.toNat, ⟨w3, Or.inl ⟨by omega, by omega⟩⟩, fun _ => w1⟩) | (exfalso; have := w1.1; omega) | (rcases hln with ⟨hx, -⟩ | ⟨hx, hn, hw⟩ <;> first | (exfalso; omega) | exact ⟨v1.toNat, RD_f w1 w2 hr1.1 (by omega) hn (by omega) w3⟩) | fail))))))))
    | ((fail_if_success (first | (with_reducible show _ ≤ _) | (with_reducible show _ = _) | (with_reducible show _ ∨ _) | (with_reducible show _ < _) | (with_reducible show G _ _ _ _))); (refine Exists.intro _ (Exists.intro _ (And.intro rfl (And.intro rfl ?_))); refine ⟨by assumption, by assumption, ?_⟩; simp only [Nat.reduceAdd] at *; (refine ⟨?_, trivial⟩; (first | done | focus (first | (dsimp only; done) | ((try dsimp only); ((first | (have e : Z1 6 3 = _ := w2; exact ⟨v1.toNat, ⟨w3, Or.inl ⟨by omega, by omega⟩⟩, fun _ => w1⟩) | (exfalso; have := w1.1; omega) | (rcases hln with ⟨hx, -⟩ | ⟨hx, hn, hw⟩ <;> first | (exfalso; omega) | exact ⟨v1.toNat, RD_f w1 w2 hr1.1 (by omega) hn (by omega) w3⟩) | fail))))))))
    | omega
    | (dsimp only; omega)
    | decide
    | (show (0 : Int) < _; omega)
    | (show (0 : Int) < _; simp only [w64] at *; omega)
    | (simp only [w32, w64] at *; omega)
    | (first | omega | ((try dsimp only); (first | omega | (simp (disch := omega) only [w32_id, w64_id]; omega) | (simp only [w32, w64]; omega) | (with_reducible refine (and32_le ?_ ?_).1 <;> omega) | (with_reducible refine (and32_le ?_ ?_).2 <;> omega) | (with_reducible refine (mulR ?_ ?_ ?_ ?_).1 <;> omega) | (with_reducible refine (mulR ?_ ?_ ?_ ?_).2 <;> omega) | (simp only [w32, w64] at *; omega) | (simp (disch := omega) only [w32_id, w64_id] at *; omega) | (simp (disch := omega) only [tdiv_nn, tmod_nn, w32_id, w64_id] at *; omega) | (subst_vars; simp [upZ] at *; omega) | (subst_vars; simp [upZ] at *; simp only [w32, w64] at *; omega))) | fail)
    | ((with_reducible show swT _ _ _ _); exact trivial)
    | rfl
    | skip
def s_X10_faultX : Sp := rRI 1 10 (fun as Z => match as with
    | [.inr (.inr a0)] => ((a0 = 1)) ∧ (BYT (bC Z)) ∧ True
    | _ => False) (fun as => match as with
    | [.inr (.inr a0)] => [4006, 5006, 6006, 8, 9, 10, 11, 12, 13, 14, 15, 16, 17]
    | _ => []) (fun as Z (x : Int) Z' => match as with
    | [.inr (.inr a0)] => (∃ m : Nat, RDR (bC Z) (Z 6 1) m x ∧ (x = -4 → RDL (bC Z) Z' m)) ∧ True
    | _ => False)
set_option maxRecDepth 100000 in
set_option maxHeartbeats 40000000 in
theorem c_X10_faultX {l : Launch} {D : va_G} {cA : Nat → ClassId} : PM l D cA yX10_fault cX10_fault 1 (some .int) 6 131 s_X10_faultX := by
  refine of_X10_fault (c_X6_readX) ⟨rfl, rfl⟩ (fun as σ hwf hao hpre => ?_)
  obtain ⟨n, Z, R⟩ := σ
  obtain ⟨hR, hI, hpre⟩ := hpre
  obtain rfl : R = R0 := hR
  (try replace hI : CI Z := hI)
  rcases as with _ | ⟨x | x | a0, _ | ⟨v, t⟩⟩ <;> first | exact (hpre : False).elim | skip
  obtain ⟨h0, q0, -⟩ := hpre
  have hk : kp ([4006, 5006, 6006, 8, 9, 10, 11, 12, 13, 14, 15, 16, 17]) Z Z := kp_refl
  refine ⟨Nat.le_of_ble_eq_true rfl, fun G hG => ?_⟩
  clear hao hwf
  (try dsimp only at q0)
  obtain rfl := h0
  refine wq_run hG n R0 [] 900 _ _ _ _ ?_
  repeat' (first
      | with_reducible rfl
      | ((with_reducible show BYT _); exact q0)
      | refine And.intro ?_ ?_
      | with_reducible exact True.intro
      | ((with_reducible show _ = true); rfl)
      | ((with_reducible show recvG _ _); rfl)
      | ((with_reducible show CI _); first | with_reducible assumption | assumption)
      | (fail_if_success (first | (with_reducible show _ ≤ _) | (with_reducible show _ = _) | (with_reducible show _ ∨ _) | (with_reducible show _ < _) | (with_reducible show G _ _ _ _))
         first
         | show G _ _ _ _
         | (refine ld_bnd (by first | with_reducible assumption | assumption) rfl ?_; intro _ _ _ hld; (try dsimp only at hld); (try simp only [Nat.reduceAdd] at hld))
         | (refine st_k (by first | with_reducible assumption | assumption) (by first | with_reducible assumption | assumption) (by first | exact Or.inl (by decide) | exact Or.inr (by decide)) (fun lo hi hb => by first | (cases hb; done) | (cases hb; constructor <;> (first | omega | ((try dsimp only); (first | omega | (simp (disch := omega) only [w32_id, w64_id]; omega) | (simp only [w32, w64]; omega) | (with_reducible refine (and32_le ?_ ?_).1 <;> omega) | (with_reducible refine (and32_le ?_ ?_).2 <;> omega) | (with_reducible refine (mulR ?_ ?_ ?_ ?_).1 <;> omega) | (with_reducible refine (mulR ?_ ?_ ?_ ?_).2 <;> omega) | (simp only [w32, w64] at *; omega) | (simp (disch := omega) only [w32_id, w64_id] at *; omega) | (simp (disch := omega) only [tdiv_nn, tmod_nn, w32_id, w64_id] at *; omega) | (subst_vars; simp [upZ] at *; omega) | (subst_vars; simp [upZ] at *; simp only [w32, w64] at *; omega))) | fail))) ?_; intro Z' _ hkk; intro hld; (try dsimp only at hld); (try simp only [Nat.reduceAdd] at hld); intro hup; (try dsimp only at hup))
         | (refine st_k (by first | with_reducible assumption | assumption) (by first | with_reducible assumption | assumption) (by first | exact Or.inl (by decide) | exact Or.inr (by decide)) (fun lo hi hb => ?_) ?_; (cases hb; refine And.intro ?_ ?_))
         | refine st_same ?_
         | (intro (r : Option PV) σ' hq
            first
            | (obtain ⟨rfl, x, rfl, hp⟩ := hq; (try replace hp : _ ∧ _ := hp); (try dsimp only at hp))
            | (obtain ⟨Z', (o : Nat), rfl, rfl, hI2, hk2, ⟨⟨hp, rfl⟩ | ⟨hp, rfl⟩, -⟩⟩ := hq <;> ((first | have hk3 := kp_to (by first | with_reducible assumption | assumption) (by rfl) hk2 | have hk3 := ks_to (by first | with_reducible assumption | assumption) (by rfl) hk2); clear hk2))
            | (obtain ⟨Z', x, rfl, rfl, hI2, hk2, hp⟩ := hq; (try replace hp : _ ∧ _ := hp); (try dsimp only at hp); (first | have hk3 := kp_to (by first | with_reducible assumption | assumption) (by rfl) hk2 | have hk3 := ks_to (by first | with_reducible assumption | assumption) (by rfl) hk2); clear hk2)
            | (obtain ⟨Z', rfl, rfl, hI2, hk2, hp⟩ := hq; (try replace hp : _ ∧ _ := hp); (try dsimp only at hp); (first | have hk3 := kp_to (by first | with_reducible assumption | assumption) (by rfl) hk2 | have hk3 := ks_to (by first | with_reducible assumption | assumption) (by rfl) hk2); clear hk2)
            | (obtain ⟨rfl, rfl⟩ := hq)
            | (obtain ⟨Z', x, rfl, rfl, hI2, hk2⟩ := hq; have hkn := keeps_nil hk2; clear hk2; subst hkn)
            | (obtain ⟨Z', x, rfl, rfl, hI2, hk2⟩ := hq; (first | have hk3 := kp_to (by first | with_reducible assumption | assumption) (by rfl) hk2 | have hk3 := ks_to (by first | with_reducible assumption | assumption) (by rfl) hk2); clear hk2)
            | (rcases hq with ⟨Z', rfl, rfl, hI2, hk2⟩ | ⟨Z', rfl, rfl, hI2, hk2⟩ <;> ((first | have hk3 := kp_to (by first | with_reducible assumption | assumption) (by rfl) hk2 | have hk3 := ks_to (by first | with_reducible assumption | assumption) (by rfl) hk2); clear hk2))
            | (obtain ⟨Z', rfl, rfl, hI2, hk2⟩ := hq; (first | have hk3 := kp_to (by first | with_reducible assumption | assumption) (by rfl) hk2 | have hk3 := ks_to (by first | with_reducible assumption | assumption) (by rfl) hk2); clear hk2))
         | (intro hc; (try simp only [cmp3_c] at hc); simp only [cmpI] at hc)
         | (show CI _; assumption)
         | intro (_ : Int)
         | intro (Z' : ZT)
         | intro (_ : CI _)
         | (intro (hkk : kp _ _ _))
         | intro (_ : _ ≤ _)
         | (intro (hup : _ = upZ _ _ _ _); (try dsimp only at hup))
         | (intro (hld : _ = _); (try dsimp only at hld); (try simp only [Nat.reduceAdd] at hld))
         | intro (_ : _ < _)
         | intro (_ : _ ≠ _)
         | intro (_ : _ ∨ _)))
  all_goals first
    | with_reducible rfl
    | ((with_reducible show _ = _); rfl)
    | ((with_reducible show recvG _ _); rfl)
    | with_reducible exact trivial
    | with_reducible assumption
    | ((fail_if_success (first | (with_reducible show _ ≤ _) | (with_reducible show _ = _) | (with_reducible show _ ∨ _) | (with_reducible show _ < _) | (with_reducible show G _ _ _ _))); (refine Exists.intro _ (Exists.intro _ (And.intro rfl (And.intro rfl ?_))); refine ⟨by assumption, by assumption, ?_⟩; (refine ⟨?_, trivial⟩; (first | done | focus (first | (dsimp only; done) | ((try dsimp only); ((first | exact hp.1 | fail))))))))
    | ((fail_if_success (first | (with_reducible show _ ≤ _) | (with_reducible show _ = _) | (with_reducible show _ ∨ _) | (with_reducible show _ < _) | (with_reducible show G _ _ _ _))); (refine Exists.intro _ (Exists.intro _ (And.intro rfl (And.intro rfl ?_))); refine ⟨by assumption, by assumption, ?_⟩; simp only [Nat.reduceAdd] at *; (refine ⟨?_, trivial⟩; (first | done | focus (first | (dsimp only; done) | ((try dsimp only); ((first | exact hp.1 | fail))))))))
    | omega
    | (dsimp only; omega)
    | decide
    | (show (0 : Int) < _; omega)
    | (show (0 : Int) < _; simp only [w64] at *; omega)
    | (simp only [w32, w64] at *; omega)
    | (first | omega | ((try dsimp only); (first | omega | (simp (disch := omega) only [w32_id, w64_id]; omega) | (simp only [w32, w64]; omega) | (with_reducible refine (and32_le ?_ ?_).1 <;> omega) | (with_reducible refine (and32_le ?_ ?_).2 <;> omega) | (with_reducible refine (mulR ?_ ?_ ?_ ?_).1 <;> omega) | (with_reducible refine (mulR ?_ ?_ ?_ ?_).2 <;> omega) | (simp only [w32, w64] at *; omega) | (simp (disch := omega) only [w32_id, w64_id] at *; omega) | (simp (disch := omega) only [tdiv_nn, tmod_nn, w32_id, w64_id] at *; omega) | (subst_vars; simp [upZ] at *; omega) | (subst_vars; simp [upZ] at *; simp only [w32, w64] at *; omega))) | fail)
    | ((with_reducible show swT _ _ _ _); exact trivial)
    | rfl
    | skip
