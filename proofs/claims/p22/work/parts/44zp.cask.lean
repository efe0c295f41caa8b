/-! ===== numbers: the class is asked ===== -/
/-- the settings are as plans, grids and first numbers are -/
def NBS (Z : ZT) : Prop := FRR Z ∧ NRW Z 2 ∧ PLW Z ∧ NWC Z ∧ ORD Z 19 ∧ (0 ≤ Z 18 4 ∧ Z 18 4 ≤ 12)
/-- what never changes of the boards -/
def NBF (Z : ZT) : Prop := (Z 70 0 = 36 ∧ Z 72 0 = 36 ∧ Z 74 0 = 36 ∧ Z 76 0 = 9) ∧ (Z 70 1 = 0 ∧ Z 72 1 = 1 ∧ Z 74 1 = 1 ∧ Z 76 1 = 0) ∧ Z 72 3 = -1
/-- what the boards hold is right -/
def NBB (Z : ZT) : Prop := BM Z 70 2 ∧ BM Z 72 2 ∧ BM Z 74 2 ∧ (0 ≤ Z 76 4 → BM Z 76 4 ∧ NRW Z 4 ∧ 1 ≤ Z 4 2 ∧ Z 4 2 ≤ 9)
def nbW : List Nat := [3, 5, 19, 20, 21, 22, 23, 24, 25, 26, 27, 28, 29, 30, 31, 32, 33, 34, 71, 73, 75, 77]
def nbF : List (Nat × Nat) := [(2, 2), (4, 2), (18, 4), (70, 0), (70, 1), (70, 3), (70, 4), (72, 0), (72, 1), (72, 3), (72, 4), (74, 0), (74, 1), (74, 3), (74, 4), (76, 0), (76, 1), (76, 3), (76, 4)]
def nbA (S : List Nat) : Bool := nbW.all (fun o => avo S o) && nbF.all (fun q => !(S.elem q.1) && !(S.elem (q.1 + 1000 * (q.2 + 1))))
theorem nb_w {S : List Nat} {Z Z' : ZT} (hk : kp S Z Z') (hS : nbA S = true) {o : Nat} (ho : o ∈ nbW) (h : o < 1000) : Z' o = Z o := kp_av hk (List.all_eq_true.mp ((Bool.and_eq_true _ _).mp hS).1 o ho) h
theorem nb_f {S : List Nat} {Z Z' : ZT} (hk : kp S Z Z') (hS : nbA S = true) {o k : Nat} (ho : (o, k) ∈ nbF) (h : o < 1000) : Z' o k = Z o k := by
  have q := List.all_eq_true.mp ((Bool.and_eq_true _ _).mp hS).2 _ ho
  rw [Bool.and_eq_true] at q
  exact hk o k h (by simpa using q.1) (by simpa using q.2)
theorem NBF_kp {S : List Nat} {Z Z' : ZT} (hk : kp S Z Z') (hS : nbA S = true) (h : NBF Z) : NBF Z' := by
  unfold NBF at h ⊢
  rw [nb_f hk hS (o := 70) (k := 0) (by decide) (by decide), nb_f hk hS (o := 72) (k := 0) (by decide) (by decide), nb_f hk hS (o := 74) (k := 0) (by decide) (by decide), nb_f hk hS (o := 76) (k := 0) (by decide) (by decide), nb_f hk hS (o := 70) (k := 1) (by decide) (by decide), nb_f hk hS (o := 72) (k := 1) (by decide) (by decide), nb_f hk hS (o := 74) (k := 1) (by decide) (by decide), nb_f hk hS (o := 76) (k := 1) (by decide) (by decide), nb_f hk hS (o := 72) (k := 3) (by decide) (by decide)]
  exact h
theorem NBB_o {Z Z' : ZT} (h19 : ∀ o, 19 ≤ o → o ≤ 34 → Z' o = Z o) (h3 : Z' 3 = Z 3) (h5 : Z' 5 = Z 5) (h22 : Z' 2 2 = Z 2 2) (h42 : Z' 4 2 = Z 4 2) (h184 : Z' 18 4 = Z 18 4) (hb : ∀ b, b = 70 ∨ b = 72 ∨ b = 74 ∨ b = 76 → Z' (b + 1) = Z (b + 1) ∧ Z' b 1 = Z b 1 ∧ Z' b 3 = Z b 3 ∧ Z' b 4 = Z b 4) (h : NBB Z) : NBB Z' := by
  have one : ∀ b g, b = 70 ∨ b = 72 ∨ b = 74 ∨ b = 76 → g = 2 ∨ g = 4 → BM Z b g → BM Z' b g := fun b g hbb hg hm => by
    obtain ⟨b1, b2, b3, b4⟩ := hb b hbb
    have e3 : Z' (g + 1) = Z (g + 1) ∧ Z' g 2 = Z g 2 := by
      rcases hg with rfl | rfl
      · exact ⟨h3, h22⟩
      · exact ⟨h5, h42⟩
    exact BM_o (envN_o (fun o h1 h2 => h19 o h1 (by omega)) e3.1) e3.2 (h19 29 (by omega) (by omega)) (slB_o b2 b3 (fun o h1 h2 => h19 o (by omega) h2) h184) b1 b4 hm
  obtain ⟨q1, q2, q3, q4⟩ := h
  refine ⟨one 70 2 (by omega) (by omega) q1, one 72 2 (by omega) (by omega) q2, one 74 2 (by omega) (by omega) q3, fun h0 => ?_⟩
  have e4 := (hb 76 (by omega)).2.2.2
  obtain ⟨r1, r2, r3, r4⟩ := q4 (by omega)
  exact ⟨one 76 4 (by omega) (by omega) r1, NRW_o h5 h42 r2, by omega, by omega⟩
theorem NBB_kp {S : List Nat} {Z Z' : ZT} (hk : kp S Z Z') (hS : nbA S = true) (h : NBB Z) : NBB Z' := by
  refine NBB_o (fun o h1 h2 => ?_) (nb_w hk hS (by decide) (by decide)) (nb_w hk hS (by decide) (by decide)) (nb_f hk hS (by decide) (by decide)) (nb_f hk hS (by decide) (by decide)) (nb_f hk hS (by decide) (by decide)) (fun b hb => ?_) h
  · refine nb_w hk hS ?_ (by omega)
    have : o = 19 ∨ o = 20 ∨ o = 21 ∨ o = 22 ∨ o = 23 ∨ o = 24 ∨ o = 25 ∨ o = 26 ∨ o = 27 ∨ o = 28 ∨ o = 29 ∨ o = 30 ∨ o = 31 ∨ o = 32 ∨ o = 33 ∨ o = 34 := by omega
    rcases this with rfl | rfl | rfl | rfl | rfl | rfl | rfl | rfl | rfl | rfl | rfl | rfl | rfl | rfl | rfl | rfl <;> decide
  · rcases hb with rfl | rfl | rfl | rfl <;> exact ⟨nb_w hk hS (by decide) (by decide), nb_f hk hS (by decide) (by decide), nb_f hk hS (by decide) (by decide), nb_f hk hS (by decide) (by decide)⟩
theorem NBB_n {Z : ZT} (h0 : Z 70 4 = -1) (h2 : Z 72 4 = -1) (h4 : Z 74 4 = -1) (h6 : Z 76 4 = -1) : NBB Z := ⟨BM_n h0, BM_n h2, BM_n h4, fun h => by omega⟩
/-- a row of right numbers, of the hall's -/
def RWC (Z : ZT) (right d : Int) (R : Nat → Int) : Prop := SOL (envN Z 2) (if right = 0 then slC Z (-1) else fun _ _ _ v => v) (Z 2 2).toNat (FZ0 Z 70 2) R d.toNat
theorem SOL_le {e : NE} {sl : Nat → Nat → Nat → Int → Int} {N : Nat} {F R : Nat → Int} {d d' : Nat} (h : SOL e sl N F R d) (hd : d' ≤ d) : SOL e sl N F R d' := ⟨h.1, fun s c l h1 h2 => h.2 s c l h1 (by omega)⟩
theorem FZ0_o {Z Z' : ZT} {b : Nat} (hb : b ≠ 76) (hen : envN Z' 2 = envN Z 2) (h29 : Z' 29 = Z 29) : FZ0 Z' b 2 = FZ0 Z 70 2 := by
  unfold FZ0
  rw [if_neg hb, if_neg (by decide), hen, h29]
theorem RW_0 {Z Z' : ZT} {d : Int} (hb : BM Z' 70 2) (h0 : 0 ≤ Z' 70 4) (hd : d ≤ Z' 70 4) {r : Int} (hr : r ≠ 0) (hf : NBF Z) (hen : envN Z' 2 = envN Z 2) (h22 : Z' 2 2 = Z 2 2) (h29 : Z' 29 = Z 29) (hsl : slB Z' 70 = slB Z 70) : RWC Z r d (BR Z' 70) := by
  have q := SOL_le (d' := d.toNat) (hb h0) (by omega)
  unfold RWC
  rw [if_neg hr]
  rw [hen, h22, hsl, FZ0_o (by decide) hen h29] at q
  unfold slB at q
  rw [if_pos hf.2.1.1] at q
  exact q
theorem RW_2 {Z Z' : ZT} {d : Int} (hb : BM Z' 72 2) (h0 : 0 ≤ Z' 72 4) (hd : d ≤ Z' 72 4) {r : Int} (hr : r = 0) (hf : NBF Z) (hen : envN Z' 2 = envN Z 2) (h22 : Z' 2 2 = Z 2 2) (h29 : Z' 29 = Z 29) (hsl : slB Z' 72 = slB Z 72) : RWC Z r d (BR Z' 72) := by
  have q := SOL_le (d' := d.toNat) (hb h0) (by omega)
  unfold RWC
  rw [if_pos hr]
  rw [hen, h22, hsl, FZ0_o (by decide) hen h29] at q
  unfold slB at q
  rw [if_neg (by rw [hf.2.1.2.1]; decide), hf.2.2] at q
  exact q
def nbS (S : List Nat) : Bool := ([3] ++ (List.range 16).map (fun k => 19 + k)).all (fun o => avo S o) && [((2 : Nat), (2 : Nat)), (18, 4)].all (fun q => !(S.elem q.1) && !(S.elem (q.1 + 1000 * (q.2 + 1))))
theorem NBS_kp {S : List Nat} {Z Z' : ZT} (hk : kp S Z Z') (hS : nbS S = true) (h : NBS Z) : NBS Z' := by
  obtain ⟨hA, hB⟩ := (Bool.and_eq_true _ _).mp hS
  have w : ∀ o, o = 3 ∨ 19 ≤ o ∧ o ≤ 34 → Z' o = Z o := fun o ho => by
    refine kp_av hk (List.all_eq_true.mp hA o ?_) (by omega)
    rcases ho with rfl | ⟨h1, h2⟩
    · decide
    · refine List.mem_append_right _ (List.mem_map.mpr ⟨o - 19, List.mem_range.mpr (by omega), by omega⟩)
  have f : ∀ o k, (o, k) ∈ [((2 : Nat), (2 : Nat)), (18, 4)] → o < 1000 → Z' o k = Z o k := fun o k ho hl => by
    have q := List.all_eq_true.mp hB _ ho
    rw [Bool.and_eq_true] at q
    exact hk o k hl (by simpa using q.1) (by simpa using q.2)
  obtain ⟨q0, q1, q2, q3, q4, q5⟩ := h
  have e4 := f 18 4 (by decide) (by decide)
  refine ⟨FRR_o (w 29 (by omega)) (w 30 (by omega)) q0, NRW_o (w 3 (by omega)) (f 2 2 (by decide) (by decide)) q1, PLW_o (fun o h1 h2 => w o (by omega)) q2, ?_, ?_, by omega⟩
  · unfold NWC at q3 ⊢
    rw [w 21 (by omega), w 22 (by omega), w 23 (by omega), w 27 (by omega), w 28 (by omega)]
    exact q3
  · unfold ORD at q4 ⊢
    rw [w 19 (by omega), w 20 (by omega), w 21 (by omega)]
    exact q4
def nbX (S : List Nat) : Bool := [((70 : Nat), (0 : Nat)), (72, 0), (74, 0), (76, 0), (70, 1), (72, 1), (74, 1), (76, 1), (72, 3)].all (fun q => !(S.elem q.1) && !(S.elem (q.1 + 1000 * (q.2 + 1))))
theorem NBF_k {S : List Nat} {Z Z' : ZT} (hk : kp S Z Z') (hS : nbX S = true) (h : NBF Z) : NBF Z' := by
  have f : ∀ o k, (o, k) ∈ [((70 : Nat), (0 : Nat)), (72, 0), (74, 0), (76, 0), (70, 1), (72, 1), (74, 1), (76, 1), (72, 3)] → o < 1000 → Z' o k = Z o k := fun o k ho hl => by
    have q := List.all_eq_true.mp hS _ ho
    rw [Bool.and_eq_true] at q
    exact hk o k hl (by simpa using q.1) (by simpa using q.2)
  unfold NBF at h ⊢
  rw [f 70 0 (by decide) (by decide), f 72 0 (by decide) (by decide), f 74 0 (by decide) (by decide), f 76 0 (by decide) (by decide), f 70 1 (by decide) (by decide), f 72 1 (by decide) (by decide), f 74 1 (by decide) (by decide), f 76 1 (by decide) (by decide), f 72 3 (by decide) (by decide)]
  exact h
def bmA (S : List Nat) (b g : Nat) : Bool := ((List.range 16).map (fun k => 19 + k)).all (fun o => avo S o) && (avo S (g + 1) && avo S (b + 1)) && [(g, (2 : Nat)), (18, 4), (b, 1), (b, 3), (b, 4)].all (fun q => !(S.elem q.1) && !(S.elem (q.1 + 1000 * (q.2 + 1))))
theorem BMk {S : List Nat} {Z Z' : ZT} (b g : Nat) (hk : kp S Z Z') (hS : (bmA S b g && (Nat.blt b 100 && Nat.blt g 100)) = true) (h : BM Z b g) : BM Z' b g := by
  obtain ⟨hS, hbg⟩ := (Bool.and_eq_true _ _).mp hS
  obtain ⟨hb1, hg1⟩ := (Bool.and_eq_true _ _).mp hbg
  have hb : b < 100 := Nat.le_of_ble_eq_true hb1
  have hg : g < 100 := Nat.le_of_ble_eq_true hg1
  obtain ⟨hA, hC⟩ := (Bool.and_eq_true _ _).mp hS
  obtain ⟨hA, hB⟩ := (Bool.and_eq_true _ _).mp hA
  obtain ⟨hB1, hB2⟩ := (Bool.and_eq_true _ _).mp hB
  have w : ∀ o, 19 ≤ o → o ≤ 34 → Z' o = Z o := fun o h1 h2 => kp_av hk (List.all_eq_true.mp hA o (List.mem_map.mpr ⟨o - 19, List.mem_range.mpr (by omega), by omega⟩)) (by omega)
  have f : ∀ o k, (o, k) ∈ [(g, (2 : Nat)), (18, 4), (b, 1), (b, 3), (b, 4)] → o < 1000 → Z' o k = Z o k := fun o k ho hl => by
    have q := List.all_eq_true.mp hC _ ho
    rw [Bool.and_eq_true] at q
    exact hk o k hl (by simpa using q.1) (by simpa using q.2)
  exact BM_o (envN_o (fun o h1 h2 => w o h1 (by omega)) (kp_av hk hB1 (by omega))) (f g 2 (by simp) (by omega)) (w 29 (by omega) (by omega)) (slB_o (f b 1 (by simp) (by omega)) (f b 3 (by simp) (by omega)) (fun o h1 h2 => w o (by omega) h2) (f 18 4 (by simp) (by omega))) (kp_av hk hB2 (by omega)) (f b 4 (by simp) (by omega)) h
def B76 (Z : ZT) : Prop := 0 ≤ Z 76 4 → BM Z 76 4 ∧ NRW Z 4 ∧ 1 ≤ Z 4 2 ∧ Z 4 2 ≤ 9
theorem B76k {S : List Nat} {Z Z' : ZT} (hk : kp S Z Z') (hS : (bmA S 76 4 && (Nat.blt 76 100 && Nat.blt 4 100)) = true) (h : B76 Z) : B76 Z' := by
  intro h0
  have hS2 := ((Bool.and_eq_true _ _).mp hS).1
  obtain ⟨hA, hC⟩ := (Bool.and_eq_true _ _).mp hS2
  obtain ⟨hA, hB⟩ := (Bool.and_eq_true _ _).mp hA
  obtain ⟨hB1, hB2⟩ := (Bool.and_eq_true _ _).mp hB
  have f : ∀ o k, (o, k) ∈ [((4 : Nat), (2 : Nat)), (18, 4), (76, 1), (76, 3), (76, 4)] → o < 1000 → Z' o k = Z o k := fun o k ho hl => by
    have q := List.all_eq_true.mp hC _ ho
    rw [Bool.and_eq_true] at q
    exact hk o k hl (by simpa using q.1) (by simpa using q.2)
  have e4 := f 76 4 (by simp) (by decide)
  have e42 := f 4 2 (by simp) (by decide)
  obtain ⟨q1, q2, q3, q4⟩ := h (by omega)
  exact ⟨BMk 76 4 hk hS q1, NRW_o (kp_av hk hB1 (by decide)) e42 q2, by omega, by omega⟩
theorem kp_one {Z Z' : ZT} {o k : Nat} {a : Int} (h : Z' = upZ Z o k a) : kp [o + 1000 * (k + 1)] Z Z' := by
  rw [h]
  exact kp_up kp_refl (Or.inr (by simp))
theorem NBB_i {Z : ZT} (h0 : BM Z 70 2) (h2 : BM Z 72 2) (h4 : BM Z 74 2) (h6 : B76 Z) : NBB Z := ⟨h0, h2, h4, h6⟩
def s_X10_reckonedN : Sp := rRO 3 10 (fun as Z => match as with
    | [.inr (.inr a0), .inl a1, .inl a2] => ((a0 = 1)) ∧ (True) ∧ (True) ∧ (NBS Z) ∧ (NBF Z) ∧ (NBB Z) ∧ (0 ≤ a2 ∧ a2 ≤ 12) ∧ True
    | _ => False) (fun as => match as with
    | [.inr (.inr a0), .inl a1, .inl a2] => [71, 73, 5070, 5072]
    | _ => []) (fun as Z (x : Nat) Z' => match as with
    | [.inr (.inr a0), .inl a1, .inl a2] => ((a1 ≠ 0 ∧ NBB Z' ∧ a2 ≤ Z' 70 4 ∧ 0 ≤ Z' 70 4) ∧ x = 70 ∨ (a1 = 0 ∧ NBB Z' ∧ a2 ≤ Z' 72 4 ∧ 0 ≤ Z' 72 4) ∧ x = 72) ∧ True
    | _ => False)
set_option maxRecDepth 100000 in
set_option maxHeartbeats 40000000 in
theorem c_X10_reckonedN {l : Launch} {D : va_G} {cA : Nat → ClassId} : PM l D cA yX10_reckoned cX10_reckoned 4 (some (.object "ForecastHall$Board")) 5 141 s_X10_reckonedN := by
  refine of_X10_reckoned (c_X0_reachN) ⟨rfl, rfl⟩ (fun as σ hwf hao hpre => ?_)
  obtain ⟨n, Z, R⟩ := σ
  obtain ⟨hR, hI, hpre⟩ := hpre
  obtain rfl : R = R0 := hR
  (try replace hI : CI Z := hI)
  rcases as with _ | ⟨x | x | a0, _ | ⟨a1 | x | x, _ | ⟨a2 | x | x, _ | ⟨v, t⟩⟩⟩⟩ <;> first | exact (hpre : False).elim | skip
  obtain ⟨k1l, k1u⟩ : okI a1 := hao (vi a1) (by simp)
  obtain ⟨k2l, k2u⟩ : okI a2 := hao (vi a2) (by simp)
  obtain ⟨h0, h1, h2, q0, q1, q2, q3, -⟩ := hpre
  have hk : kp ([71, 73, 5070, 5072]) Z Z := kp_refl
  refine ⟨Nat.le_of_ble_eq_true rfl, fun G hG => ?_⟩
  clear hao hwf
  (try dsimp only at q0)
  (try dsimp only at q1)
  (try dsimp only at q2)
  (try dsimp only at q3)
  obtain rfl := h0
  have hb70 : BM Z 70 2 := q2.1
  have hb72 : BM Z 72 2 := q2.2.1
  have hb74 : BM Z 74 2 := q2.2.2.1
  have hb76 : B76 Z := q2.2.2.2
  have hns := q0
  have hnf := q1
  refine wq_run hG n R0 [] 900 _ _ _ _ ?_
  repeat' (first
      | with_reducible rfl
      | ((with_reducible show NBS _); first | exact hns | exact q0)
      | ((with_reducible show NBF _); first | exact hnf | exact q1)
      | ((with_reducible show FRR _); exact hns.1)
      | ((with_reducible show PLW _); exact hns.2.2.1)
      | ((with_reducible show ORD _ _); exact hns.2.2.2.2.1)
      | ((with_reducible show BM _ 70 2); exact hb70)
      | ((with_reducible show BM _ 72 2); exact hb72)
      | ((with_reducible show BM _ 74 2); first | exact hb74 | exact BM_n (by omega))
      | ((with_reducible show NBB _); exact NBB_i hb70 hb72 hb74 hb76)
      | refine And.intro ?_ ?_
      | with_reducible exact True.intro
      | ((with_reducible show _ = true); rfl)
      | ((with_reducible show recvG _ _); rfl)
      | ((with_reducible show CI _); first | with_reducible assumption | assumption)
      | (fail_if_success (first | (with_reducible show _ ≤ _) | (with_reducible show _ = _) | (with_reducible show _ ∨ _) | (with_reducible show _ < _) | (with_reducible show G _ _ _ _))
         first
         | show G _ _ _ _
         | (refine ld_bnd (by first | with_reducible assumption | assumption) rfl ?_; intro _ _ _ hld; (try dsimp only at hld); (try simp only [Nat.reduceAdd] at hld))
         | (refine st_k (by first | with_reducible assumption | assumption) (by first | with_reducible assumption | assumption) (by first | exact Or.inl (by decide) | exact Or.inr (by decide)) (fun lo hi hb => by first | (cases hb; done) | (cases hb; constructor <;> (first | omega | ((try dsimp only); (first | omega | (simp (disch := omega) only [w32_id, w64_id]; omega) | (simp only [w32, w64]; omega) | (with_reducible refine (and32_le ?_ ?_).1 <;> omega) | (with_reducible refine (and32_le ?_ ?_).2 <;> omega) | (with_reducible refine (mulR ?_ ?_ ?_ ?_).1 <;> omega) | (with_reducible refine (mulR ?_ ?_ ?_ ?_).2 <;> omega) | (simp only [w32, w64] at *; omega) | (simp (disch := omega) only [w32_id, w64_id] at *; omega) | (simp (disch := omega) only [tdiv_nn, tmod_nn, w32_id, w64_id] at *; omega) | (subst_vars; simp [upZ] at *; omega) | (subst_vars; simp [upZ] at *; simp only [w32, w64] at *; omega))) | fail))) ?_; intro Z' _ hkk; intro hld; (try dsimp only at hld); (try simp only [Nat.reduceAdd] at hld); intro hup; (try dsimp only at hup); (try have hb70 := BMk 70 2 (kp_one hup) (by rfl) hb70); (try have hb72 := BMk 72 2 (kp_one hup) (by rfl) hb72); (try have hb74 := BMk 74 2 (kp_one hup) (by rfl) hb74); (try have hb76 := B76k (kp_one hup) (by rfl) hb76); (try have hns := NBS_kp (kp_one hup) (by rfl) hns); (try have hnf := NBF_k (kp_one hup) (by rfl) hnf))
         | (refine st_k (by first | with_reducible assumption | assumption) (by first | with_reducible assumption | assumption) (by first | exact Or.inl (by decide) | exact Or.inr (by decide)) (fun lo hi hb => ?_) ?_; (cases hb; refine And.intro ?_ ?_))
         | refine st_same ?_
         | (intro (r : Option PV) σ' hq
            first
            | (obtain ⟨rfl, x, rfl, hp⟩ := hq; (try replace hp : _ ∧ _ := hp); (try dsimp only at hp); (first | (have hb70 : BM _ 70 2 := hp.2.1; have hd70 := hp.1) | (have hb72 : BM _ 72 2 := hp.2.1; have hd72 := hp.1) | (have hb74 : BM _ 74 2 := hp.2.1; have hd74 := hp.1) | (have hbs : BM _ 76 4 := hp.2.1; have hd76 := hp.1) | skip))
            | (obtain ⟨Z', (o : Nat), rfl, rfl, hI2, hk2, ⟨⟨hp, rfl⟩ | ⟨hp, rfl⟩, -⟩⟩ := hq <;> ((first | have hk3 := kp_to (by first | with_reducible assumption | assumption) (by rfl) hk2 | have hk3 := ks_to (by first | with_reducible assumption | assumption) (by rfl) hk2); (try have hb70 := BMk 70 2 hk2 (by rfl) hb70); (try have hb72 := BMk 72 2 hk2 (by rfl) hb72); (try have hb74 := BMk 74 2 hk2 (by rfl) hb74); (try have hb76 := B76k hk2 (by rfl) hb76); (try have hns := NBS_kp hk2 (by rfl) hns); (try have hnf := NBF_k hk2 (by rfl) hnf); clear hk2))
            | (obtain ⟨Z', x, rfl, rfl, hI2, hk2, hp⟩ := hq; (try replace hp : _ ∧ _ := hp); (try dsimp only at hp); (first | have hk3 := kp_to (by first | with_reducible assumption | assumption) (by rfl) hk2 | have hk3 := ks_to (by first | with_reducible assumption | assumption) (by rfl) hk2); (try have hb70 := BMk 70 2 hk2 (by rfl) hb70); (try have hb72 := BMk 72 2 hk2 (by rfl) hb72); (try have hb74 := BMk 74 2 hk2 (by rfl) hb74); (try have hb76 := B76k hk2 (by rfl) hb76); (try have hns := NBS_kp hk2 (by rfl) hns); (try have hnf := NBF_k hk2 (by rfl) hnf); clear hk2; (first | (have hb70 : BM _ 70 2 := hp.2.1; have hd70 := hp.1) | (have hb72 : BM _ 72 2 := hp.2.1; have hd72 := hp.1) | (have hb74 : BM _ 74 2 := hp.2.1; have hd74 := hp.1) | (have hbs : BM _ 76 4 := hp.2.1; have hd76 := hp.1) | skip))
            | (obtain ⟨Z', rfl, rfl, hI2, hk2, hp⟩ := hq; (try replace hp : _ ∧ _ := hp); (try dsimp only at hp); (first | have hk3 := kp_to (by first | with_reducible assumption | assumption) (by rfl) hk2 | have hk3 := ks_to (by first | with_reducible assumption | assumption) (by rfl) hk2); (try have hb70 := BMk 70 2 hk2 (by rfl) hb70); (try have hb72 := BMk 72 2 hk2 (by rfl) hb72); (try have hb74 := BMk 74 2 hk2 (by rfl) hb74); (try have hb76 := B76k hk2 (by rfl) hb76); (try have hns := NBS_kp hk2 (by rfl) hns); (try have hnf := NBF_k hk2 (by rfl) hnf); clear hk2; (first | (have hb70 : BM _ 70 2 := hp.2.1; have hd70 := hp.1) | (have hb72 : BM _ 72 2 := hp.2.1; have hd72 := hp.1) | (have hb74 : BM _ 74 2 := hp.2.1; have hd74 := hp.1) | (have hbs : BM _ 76 4 := hp.2.1; have hd76 := hp.1) | skip))
            | (obtain ⟨rfl, rfl⟩ := hq)
            | (obtain ⟨Z', x, rfl, rfl, hI2, hk2⟩ := hq; have hkn := keeps_nil hk2; clear hk2; subst hkn)
            | (obtain ⟨Z', x, rfl, rfl, hI2, hk2⟩ := hq; (first | have hk3 := kp_to (by first | with_reducible assumption | assumption) (by rfl) hk2 | have hk3 := ks_to (by first | with_reducible assumption | assumption) (by rfl) hk2); (try have hb70 := BMk 70 2 hk2 (by rfl) hb70); (try have hb72 := BMk 72 2 hk2 (by rfl) hb72); (try have hb74 := BMk 74 2 hk2 (by rfl) hb74); (try have hb76 := B76k hk2 (by rfl) hb76); (try have hns := NBS_kp hk2 (by rfl) hns); (try have hnf := NBF_k hk2 (by rfl) hnf); clear hk2)
            | (rcases hq with ⟨Z', rfl, rfl, hI2, hk2⟩ | ⟨Z', rfl, rfl, hI2, hk2⟩ <;> ((first | have hk3 := kp_to (by first | with_reducible assumption | assumption) (by rfl) hk2 | have hk3 := ks_to (by first | with_reducible assumption | assumption) (by rfl) hk2); (try have hb70 := BMk 70 2 hk2 (by rfl) hb70); (try have hb72 := BMk 72 2 hk2 (by rfl) hb72); (try have hb74 := BMk 74 2 hk2 (by rfl) hb74); (try have hb76 := B76k hk2 (by rfl) hb76); (try have hns := NBS_kp hk2 (by rfl) hns); (try have hnf := NBF_k hk2 (by rfl) hnf); clear hk2))
            | (obtain ⟨Z', rfl, rfl, hI2, hk2⟩ := hq; (first | have hk3 := kp_to (by first | with_reducible assumption | assumption) (by rfl) hk2 | have hk3 := ks_to (by first | with_reducible assumption | assumption) (by rfl) hk2); (try have hb70 := BMk 70 2 hk2 (by rfl) hb70); (try have hb72 := BMk 72 2 hk2 (by rfl) hb72); (try have hb74 := BMk 74 2 hk2 (by rfl) hb74); (try have hb76 := B76k hk2 (by rfl) hb76); (try have hns := NBS_kp hk2 (by rfl) hns); (try have hnf := NBF_k hk2 (by rfl) hnf); clear hk2))
         | (intro hc; (try simp only [cmp3_c] at hc); simp only [cmpI] at hc)
         | (show CI _; assumption)
         | intro (_ : Int)
         | intro (Z' : ZT)
         | intro (_ : CI _)
         | (intro (hkk : kp _ _ _))
         | intro (_ : _ ≤ _)
         | (intro (hup : _ = upZ _ _ _ _); (try dsimp only at hup); (try have hb70 := BMk 70 2 (kp_one hup) (by rfl) hb70); (try have hb72 := BMk 72 2 (kp_one hup) (by rfl) hb72); (try have hb74 := BMk 74 2 (kp_one hup) (by rfl) hb74); (try have hb76 := B76k (kp_one hup) (by rfl) hb76); (try have hns := NBS_kp (kp_one hup) (by rfl) hns); (try have hnf := NBF_k (kp_one hup) (by rfl) hnf))
         | (intro (hld : _ = _); (try dsimp only at hld); (try simp only [Nat.reduceAdd] at hld))
         | intro (_ : _ < _)
         | intro (_ : _ ≠ _)
         | intro (_ : _ ∨ _)))
  all_goals first
    | with_reducible rfl
    | ((with_reducible show _ = _); rfl)
    | ((with_reducible show recvG _ _); rfl)
    | with_reducible exact trivial
    | with_reducible assumption
    | ((with_reducible show NRW _ 2); exact hns.2.1)
    | ((with_reducible show NWC _); exact hns.2.2.2.1)
    | ((with_reducible show _ = _); first | exact hnf.1.1 | exact hnf.1.2.1 | exact hnf.1.2.2.1 | exact hnf.1.2.2.2)
    | ((with_reducible show _ ≤ _); (show _ ≤ (36 : Int)); have hgc := (by assumption : CI _) 2 2 4 36 rfl; exact hgc.2)
    | ((with_reducible show _ ≤ _); (try dsimp only); have hsr := hns.2.2.2.2.2; omega)
    | ((fail_if_success (first | (with_reducible show _ ≤ _) | (with_reducible show _ = _) | (with_reducible show _ ∨ _) | (with_reducible show _ < _) | (with_reducible show G _ _ _ _))); (refine Exists.intro _ (Exists.intro _ (And.intro rfl (And.intro rfl ?_))); refine ⟨by assumption, by assumption, ?_⟩; (refine ⟨?_, trivial⟩; (first | done | focus (first | (dsimp only; done) | ((try dsimp only); (first | exact Or.inl ⟨⟨by omega, NBB_i hb70 hb72 (by first | exact hb74 | exact BM_n (by omega)) hb76, hd70.1, hd70.2⟩, rfl⟩ | exact Or.inr ⟨⟨by omega, NBB_i hb70 hb72 (by first | exact hb74 | exact BM_n (by omega)) hb76, hd72.1, hd72.2⟩, rfl⟩ | fail)))))))
    | ((fail_if_success (first | (with_reducible show _ ≤ _) | (with_reducible show _ = _) | (with_reducible show _ ∨ _) | (with_reducible show _ < _) | (with_reducible show G _ _ _ _))); (refine Exists.intro _ (Exists.intro _ (And.intro rfl (And.intro rfl ?_))); refine ⟨by assumption, by assumption, ?_⟩; simp only [Nat.reduceAdd] at *; (refine ⟨?_, trivial⟩; (first | done | focus (first | (dsimp only; done) | ((try dsimp only); (first | exact Or.inl ⟨⟨by omega, NBB_i hb70 hb72 (by first | exact hb74 | exact BM_n (by omega)) hb76, hd70.1, hd70.2⟩, rfl⟩ | exact Or.inr ⟨⟨by omega, NBB_i hb70 hb72 (by first | exact hb74 | exact BM_n (by omega)) hb76, hd72.1, hd72.2⟩, rfl⟩ | fail)))))))
    | omega
    | (dsimp only; omega)
    | decide
    | (show (0 : Int) < _; omega)
    | (show (0 : Int) < _; simp only [w64] at *; omega)
    | (simp only [w32, w64] at *; omega)
    | (first | omega | ((try dsimp only); (first | omega | (simp (disch := omega) only [w32_id, w64_id]; omega) | (simp only [w32, w64]; omega) | (with_reducible refine (and32_le ?_ ?_).1 <;> omega) | (with_reducible refine (and32_le ?_ ?_).2 <;> omega) | (with_reducible refine (mulR ?_ ?_ ?_ ?_).1 <;> omega) | (with_reducible refine (mulR ?_ ?_ ?_ ?_).2 <;> omega) | (simp only [w32, w64] at *; omega) | (simp (disch := omega) only [w32_id, w64_id] at *; omega) | (simp (disch := omega) only [tdiv_nn, tmod_nn, w32_id, w64_id] at *; omega) | (subst_vars; simp [upZ] at *; omega) | (subst_vars; simp [upZ] at *; simp only [w32, w64] at *; omega))) | fail)
    | ((with_reducible show swT _ _ _ _); exact trivial)
    | rfl
    | ((fail_if_success (first | (with_reducible show _ ≤ _) | (with_reducible show _ = _) | (with_reducible show _ ∨ _) | (with_reducible show _ < _) | (with_reducible show G _ _ _ _) | (with_reducible show Exists _))); exact trivial)
    | skip
