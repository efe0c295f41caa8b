/-! ===== bytes written: class's and model's alike ===== -/
theorem byV_eq (V : BitVec 64) (s : Nat) (hs : s ≤ 56) : (V.sshiftRight s &&& 255#64) = (V >>> s &&& 255#64) := by
  have hm : ∀ i : Nat, i < 64 → (255#64).getLsbD i = decide (i < 8) := by decide
  refine BitVec.eq_of_getLsbD_eq (fun i hi => ?_)
  rw [BitVec.getLsbD_and, BitVec.getLsbD_and, hm i hi]
  by_cases h : i < 8
  · have h1 : ¬ 64 ≤ i := by omega
    have h2 : s + i < 64 := by omega
    simp [BitVec.getLsbD_sshiftRight, BitVec.getLsbD_ushiftRight, h1, h2]
  · simp [h]
theorem i64_bv (V : BitVec 64) : (Int64.ofInt V.toInt).toBitVec = V := by
  show BitVec.ofInt 64 V.toInt = V
  exact BitVec.ofInt_toInt
theorem shr64_bv {v k : Int} (h0 : 0 ≤ k) (h1 : k < 64) : shr64 v k = ((Int64.ofInt v).toBitVec.sshiftRight k.toNat).toInt := by
  have h : ∀ n : Nat, n < 64 → ((((Int32.ofInt n).toInt64 &&& 63).toBitVec).smod 64).toNat = n := by decide +kernel
  have h2 := h k.toNat (by omega)
  rw [Int.toNat_of_nonneg h0] at h2
  have e : shr64 v k = ((Int64.ofInt v).toBitVec.sshiftRight' ((((Int32.ofInt k).toInt64 &&& 63).toBitVec).smod 64)).toInt := rfl
  rw [e]
  show ((Int64.ofInt v).toBitVec.sshiftRight ((((Int32.ofInt k).toInt64 &&& 63).toBitVec).smod 64).toNat).toInt = _
  rw [h2]
theorem ushr64_bv {v k : Int} (h0 : 0 ≤ k) (h1 : k < 64) : ushr64 v k = ((Int64.ofInt v).toBitVec >>> k.toNat).toInt := by
  have h : ∀ n : Nat, n < 64 → (((Int32.ofInt n).toInt64.toUInt64 &&& Int64.toUInt64 63).toBitVec % 64).toNat = n := by decide +kernel
  have h2 := h k.toNat (by omega)
  rw [Int.toNat_of_nonneg h0] at h2
  have e : ushr64 v k = ((Int64.ofInt v).toBitVec >>> (((Int32.ofInt k).toInt64.toUInt64 &&& Int64.toUInt64 63).toBitVec % 64)).toInt := rfl
  rw [e]
  show ((Int64.ofInt v).toBitVec >>> ((((Int32.ofInt k).toInt64.toUInt64 &&& Int64.toUInt64 63).toBitVec % 64)).toNat).toInt = _
  rw [h2]
/-- a byte of a number -/
def byV (v i : Int) : Int := w32 (and64 (shr64 v (w32 (8 * i))) 255)
theorem byV_m {v i : Int} (h0 : 0 ≤ i) (h7 : i ≤ 7) : byV v i = ((((Int64.ofInt v).toBitVec >>> (8 * i).toNat) &&& 255#64).toNat : Int) ∧ 0 ≤ byV v i ∧ byV v i ≤ 255 := by
  have hk : w32 (8 * i) = 8 * i := w32_id (by omega) (by omega)
  have e : and64 (shr64 v (8 * i)) 255 = ((((Int64.ofInt v).toBitVec >>> (8 * i).toNat) &&& 255#64)).toInt := by
    rw [shr64_bv (by omega) (by omega)]
    show ((Int64.ofInt ((Int64.ofInt v).toBitVec.sshiftRight (8 * i).toNat).toInt).toBitVec &&& 255#64).toInt = _
    rw [i64_bv, byV_eq _ _ (by omega)]
  have hl : (((Int64.ofInt v).toBitVec >>> (8 * i).toNat) &&& 255#64).toNat ≤ 255 := by
    rw [BitVec.toNat_and]
    exact Nat.and_le_right
  have e2 : ((((Int64.ofInt v).toBitVec >>> (8 * i).toNat) &&& 255#64)).toInt = ((((Int64.ofInt v).toBitVec >>> (8 * i).toNat) &&& 255#64).toNat : Int) := BitVec.toInt_eq_toNat_of_lt (by omega)
  have g : byV v i = ((((Int64.ofInt v).toBitVec >>> (8 * i).toNat) &&& 255#64).toNat : Int) := by
    unfold byV
    rw [hk, e, e2]
    exact w32_id (by omega) (by omega)
  exact ⟨g, by omega, by omega⟩
theorem byV_c {v i : Int} (h0 : 0 ≤ i) (h7 : i ≤ 7) : and32 (w32 (ushr64 v (w32 (8 * i)))) 255 = byV v i := by
  have hk : w32 (8 * i) = 8 * i := w32_id (by omega) (by omega)
  rw [(byV_m h0 h7).1, hk, ushr64_bv (by omega) (by omega)]
  have e : and32 (w32 ((Int64.ofInt v).toBitVec >>> (8 * i).toNat).toInt) 255 = ((BitVec.ofInt 32 (w32 ((Int64.ofInt v).toBitVec >>> (8 * i).toNat).toInt)) &&& 255#32).toInt := rfl
  have e1 : BitVec.ofInt 32 (w32 ((Int64.ofInt v).toBitVec >>> (8 * i).toNat).toInt) = ((Int64.ofInt v).toBitVec >>> (8 * i).toNat).setWidth 32 := by
    refine BitVec.eq_of_toNat_eq ?_
    rw [BitVec.toNat_ofInt, BitVec.toNat_setWidth]
    have q : ((Int64.ofInt v).toBitVec >>> (8 * i).toNat).toInt = (((Int64.ofInt v).toBitVec >>> (8 * i).toNat).toNat : Int) ∨ ((Int64.ofInt v).toBitVec >>> (8 * i).toNat).toInt = (((Int64.ofInt v).toBitVec >>> (8 * i).toNat).toNat : Int) - 18446744073709551616 := by
      rw [BitVec.toInt_eq_toNat_cond]
      split
      · exact Or.inl rfl
      · exact Or.inr rfl
    unfold w32
    omega
  rw [e, e1]
  have hn : ((((Int64.ofInt v).toBitVec >>> (8 * i).toNat).setWidth 32) &&& 255#32).toNat = (((Int64.ofInt v).toBitVec >>> (8 * i).toNat) &&& 255#64).toNat := by
    rw [BitVec.toNat_and, BitVec.toNat_and, BitVec.toNat_setWidth]
    show _ % 2 ^ 32 &&& 255 = _ &&& 255
    have h1 := Nat.and_two_pow_sub_one_eq_mod (((Int64.ofInt v).toBitVec >>> (8 * i).toNat).toNat % 2 ^ 32) 8
    have h2 := Nat.and_two_pow_sub_one_eq_mod (((Int64.ofInt v).toBitVec >>> (8 * i).toNat).toNat) 8
    have h3 : (2 : Nat) ^ 8 - 1 = 255 := by decide
    rw [h3] at h1 h2
    rw [h1, h2]
    omega
  have hl : (((Int64.ofInt v).toBitVec >>> (8 * i).toNat) &&& 255#64).toNat ≤ 255 := by
    rw [BitVec.toNat_and]
    exact Nat.and_le_right
  rw [small32 (by omega), hn]
/-- the bytes written: n of them, of a, down to the v-th -/
def WRB (Z Z1 : ZT) (o : Nat) (len n v a : Int) : Prop := (∀ k : Nat, (k : Int) < len → Z1 o k = Z o k) ∧ ∀ j : Nat, (j : Int) < n - 1 - v → Z1 o (len.toNat + j) = byV a (n - 1 - j)
theorem WRB_0 {Z : ZT} {o : Nat} {len n v a : Int} (hv : v = n - 1) : WRB Z Z o len n v a := ⟨fun _ _ => rfl, fun j hj => by omega⟩
theorem WRB_o {Z Z1 Z' : ZT} {o : Nat} {len n v a : Int} (e : Z' o = Z1 o) (h : WRB Z Z1 o len n v a) : WRB Z Z' o len n v a := by
  unfold WRB at h ⊢
  rw [e]
  exact h
theorem WRB_s {Z Z1 Z' : ZT} {o : Nat} {len n v v' a l x : Int} (h : WRB Z Z1 o len n v a) (hu : Z' o = upZ Z1 o l.toNat x o) (hl : l = len + (n - 1 - v)) (hx : x = byV a v) (h0 : 0 ≤ len) (hv : v ≤ n - 1) (hv' : v' = v - 1) : WRB Z Z' o len n v' a := by
  subst hv' hl
  refine ⟨fun k hk => ?_, fun j hj => ?_⟩
  · rw [hu, up_nk (by omega)]
    exact h.1 k hk
  · rw [hu]
    by_cases hq : (j : Int) = n - 1 - v
    · rw [show len.toNat + j = (len + (n - 1 - v)).toNat by omega, up_eq, hx]
      congr 1
      omega
    · rw [up_nk (by omega)]
      exact h.2 j (by omega)
def s_X6_appendX : Sp := rRV 2 6 (fun as Z => match as with
    | [.inr (.inr a0), .inl a1] => ((a0 = 6)) ∧ (True) ∧ (0 ≤ Z 6 1) ∧ (Z 6 1 ≤ 159) ∧ True
    | _ => False) (fun as => match as with
    | [.inr (.inr a0), .inl a1] => [7, 2006]
    | _ => []) (fun as Z Z' => match as with
    | [.inr (.inr a0), .inl a1] => (Z' 6 1 = Z 6 1 + 1) ∧ (Z' 7 = upZ Z 7 (Z 6 1).toNat a1 7) ∧ True
    | _ => False)
set_option maxRecDepth 100000 in
set_option maxHeartbeats 40000000 in
theorem c_X6_appendX {l : Launch} {D : va_G} {cA : Nat → ClassId} : PM l D cA yX6_append cX6_append 2 none 0 0 s_X6_appendX := by
  refine of_X6_append  (fun as σ hwf hao hpre => ?_)
  obtain ⟨n, Z, R⟩ := σ
  obtain ⟨hR, hI, hpre⟩ := hpre
  obtain rfl : R = R0 := hR
  rcases as with _ | ⟨x | x | a0, _ | ⟨a1 | x | x, _ | ⟨v, t⟩⟩⟩ <;> first | exact (hpre : False).elim | skip
  obtain ⟨k1l, k1u⟩ : okI a1 := hao (vi a1) (by simp)
  obtain ⟨h0, h1, q0, q1, -⟩ := hpre
  have hk : kp ([7, 2006]) Z Z := kp_refl
  refine ⟨Nat.le_of_ble_eq_true rfl, fun G hG => ?_⟩
  clear hao hwf
  (try dsimp only at q0)
  (try dsimp only at q1)
  obtain rfl := h0
  have e7 : Z 7 = Z 7 := rfl
  refine wq_run hG n R0 [] 900 _ _ _ _ ?_
  repeat' (first
      | refine And.intro ?_ ?_
      | with_reducible rfl
      | (refine ld_bnd (by assumption) rfl ?_; intro (x : Int) _ _ hx; (try dsimp only at hx); subst hx)
      | (intro (x : Int) hx; (try dsimp only at hx); subst hx)
      | refine ld_bnd (by assumption) rfl ?_
      | refine st_k (by assumption) (by assumption) (by first | exact Or.inl (by decide) | exact Or.inr (by decide)) (fun lo hi hb => by first | (cases hb; done) | (cases hb; constructor <;> (first | omega | ((try dsimp only); (first | omega | (simp (disch := omega) only [w32_id, w64_id]; omega) | (simp only [w32, w64]; omega) | (with_reducible refine (and32_le ?_ ?_).1 <;> omega) | (with_reducible refine (and32_le ?_ ?_).2 <;> omega) | (with_reducible refine (mulR ?_ ?_ ?_ ?_).1 <;> omega) | (with_reducible refine (mulR ?_ ?_ ?_ ?_).2 <;> omega) | (simp only [w32, w64] at *; omega) | (simp (disch := omega) only [w32_id, w64_id] at *; omega) | (simp (disch := omega) only [tdiv_nn, tmod_nn, w32_id, w64_id] at *; omega) | (subst_vars; simp [upZ] at *; omega) | (subst_vars; simp [upZ] at *; simp only [w32, w64] at *; omega))) | fail))) ?_
      | (refine st_k (by assumption) (by assumption) (by first | exact Or.inl (by decide) | exact Or.inr (by decide)) (fun lo hi hb => ?_) ?_; (cases hb; refine And.intro ?_ ?_))
      | refine st_same ?_
      | (intro (r : Option PV) σ' hq
         first
         | (obtain ⟨rfl, rfl⟩ := hq)
         | (obtain ⟨rfl, x, rfl, hp⟩ := hq; (try replace hp : _ ∧ _ := hp); (try dsimp only at hp))
         | (obtain ⟨Z', (o : Nat), rfl, rfl, hI2, hk2, ⟨⟨hp, rfl⟩ | ⟨hp, rfl⟩, -⟩⟩ := hq <;> ((first | have hk3 := kp_to (by assumption) (by rfl) hk2 | have hk3 := ks_to (by assumption) (by rfl) hk2); (first | have e7 := (kp_av (o := 7) hk2 (by rfl) (by decide)).trans e7 | skip); clear hk2))
         | (obtain ⟨Z', x, rfl, rfl, hI2, hk2, hp⟩ := hq; (try replace hp : _ ∧ _ := hp); (try dsimp only at hp); (first | have hk3 := kp_to (by assumption) (by rfl) hk2 | have hk3 := ks_to (by assumption) (by rfl) hk2); (first | have e7 := (kp_av (o := 7) hk2 (by rfl) (by decide)).trans e7 | skip); clear hk2)
         | (obtain ⟨Z', x, rfl, rfl, hI2, hk2⟩ := hq; have hkn := keeps_nil hk2; clear hk2; subst hkn)
         | (obtain ⟨Z', x, rfl, rfl, hI2, hk2⟩ := hq; (first | have hk3 := kp_to (by assumption) (by rfl) hk2 | have hk3 := ks_to (by assumption) (by rfl) hk2); (first | have e7 := (kp_av (o := 7) hk2 (by rfl) (by decide)).trans e7 | skip); clear hk2)
         | (rcases hq with ⟨Z', rfl, rfl, hI2, hk2⟩ | ⟨Z', rfl, rfl, hI2, hk2⟩ <;> ((first | have hk3 := kp_to (by assumption) (by rfl) hk2 | have hk3 := ks_to (by assumption) (by rfl) hk2); (first | have e7 := (kp_av (o := 7) hk2 (by rfl) (by decide)).trans e7 | skip); clear hk2))
         | (obtain ⟨Z', rfl, rfl, hI2, hk2, hp⟩ := hq; (try replace hp : _ ∧ _ := hp); (try dsimp only at hp); (first | have hk3 := kp_to (by assumption) (by rfl) hk2 | have hk3 := ks_to (by assumption) (by rfl) hk2); (first | have e7 := (kp_av (o := 7) hk2 (by rfl) (by decide)).trans e7 | skip); clear hk2)
         | (obtain ⟨Z', rfl, rfl, hI2, hk2⟩ := hq; (first | have hk3 := kp_to (by assumption) (by rfl) hk2 | have hk3 := ks_to (by assumption) (by rfl) hk2); (first | have e7 := (kp_av (o := 7) hk2 (by rfl) (by decide)).trans e7 | skip); clear hk2))
      | (intro hc; (try simp only [cmp3_c] at hc); simp only [cmpI] at hc)
      | (show CI _; assumption)
      | intro (_ : Int)
      | intro (Z' : ZT)
      | intro (_ : CI _)
      | (intro (hkk : kp _ _ _))
      | intro (_ : _ ≤ _)
      | (intro (hup : _ = upZ _ _ _ _); (try dsimp only at hup); (first | have := (congrFun (congrFun hup 6) 1).trans (up_ne (by decide)) | have := (congrFun (congrFun hup 6) 1).trans (up_nk (by decide)) | skip); (try have e7 := (up_o hup (by decide)).trans e7); (first | have f7 : _ = upZ _ 7 _ _ 7 := congrFun hup 7 | have f7 := (up_o hup (by decide)).trans f7 | skip))
      | (intro (hld : _ = _); (try dsimp only at hld); (try simp only [Nat.reduceAdd] at hld))
      | intro (_ : _ < _)
      | intro (_ : _ ≠ _)
      | intro (_ : _ ∨ _))
  all_goals first
    | with_reducible rfl
    | ((with_reducible show _ = _); rfl)
    | ((with_reducible show recvG _ _); rfl)
    | with_reducible exact trivial
    | with_reducible assumption
    | omega
    | (dsimp only; omega)
    | decide
    | (show (0 : Int) < _; omega)
    | (show (0 : Int) < _; simp only [w64] at *; omega)
    | (simp only [w32, w64] at *; omega)
    | (refine Exists.intro _ (And.intro rfl (And.intro rfl ?_)); refine ⟨by assumption, by assumption, ?_⟩; (refine ⟨?_, ?_, trivial⟩; (first | done | focus (first | (dsimp only; done) | ((try dsimp only); (first | omega | with_reducible assumption | with_reducible rfl | (first | omega | ((try dsimp only); (first | omega | (simp (disch := omega) only [w32_id, w64_id]; omega) | (simp only [w32, w64]; omega) | (with_reducible refine (and32_le ?_ ?_).1 <;> omega) | (with_reducible refine (and32_le ?_ ?_).2 <;> omega) | (with_reducible refine (mulR ?_ ?_ ?_ ?_).1 <;> omega) | (with_reducible refine (mulR ?_ ?_ ?_ ?_).2 <;> omega) | (simp only [w32, w64] at *; omega) | (simp (disch := omega) only [w32_id, w64_id] at *; omega) | (simp (disch := omega) only [tdiv_nn, tmod_nn, w32_id, w64_id] at *; omega) | (subst_vars; simp [upZ] at *; omega) | (subst_vars; simp [upZ] at *; simp only [w32, w64] at *; omega))) | fail) | fail)))); (first | done | focus (first | (dsimp only; done) | ((try dsimp only); ((first | with_reducible assumption | exact f7 | fail)))))))
    | (first | omega | ((try dsimp only); (first | omega | (simp (disch := omega) only [w32_id, w64_id]; omega) | (simp only [w32, w64]; omega) | (with_reducible refine (and32_le ?_ ?_).1 <;> omega) | (with_reducible refine (and32_le ?_ ?_).2 <;> omega) | (with_reducible refine (mulR ?_ ?_ ?_ ?_).1 <;> omega) | (with_reducible refine (mulR ?_ ?_ ?_ ?_).2 <;> omega) | (simp only [w32, w64] at *; omega) | (simp (disch := omega) only [w32_id, w64_id] at *; omega) | (simp (disch := omega) only [tdiv_nn, tmod_nn, w32_id, w64_id] at *; omega) | (subst_vars; simp [upZ] at *; omega) | (subst_vars; simp [upZ] at *; simp only [w32, w64] at *; omega))) | fail)
    | ((with_reducible show swT _ _ _ _); exact trivial)
    | rfl
    | skip
def s_X10_writeX : Sp := rRI 3 10 (fun as Z => match as with
    | [.inr (.inr a0), .inl a1, .inr (.inl a2)] => ((a0 = 1)) ∧ (True) ∧ (True) ∧ (0 ≤ Z 6 1) ∧ (Z 6 1 ≤ 160) ∧ True
    | _ => False) (fun as => match as with
    | [.inr (.inr a0), .inl a1, .inr (.inl a2)] => [7, 2006]
    | _ => []) (fun as Z (x : Int) Z' => match as with
    | [.inr (.inr a0), .inl a1, .inr (.inl a2)] => (x = -1 ∧ ¬(1 ≤ a1 ∧ a1 ≤ 8) ∧ Z' 6 1 = Z 6 1 ∧ Z' 7 = Z 7 ∨ x = -3 ∧ (1 ≤ a1 ∧ a1 ≤ 8) ∧ 160 < Z 6 1 + a1 ∧ Z' 6 1 = Z 6 1 ∧ Z' 7 = Z 7 ∨ x = Z 6 1 + a1 ∧ (1 ≤ a1 ∧ a1 ≤ 8) ∧ Z 6 1 + a1 ≤ 160 ∧ Z' 6 1 = Z 6 1 + a1 ∧ WRB Z Z' 7 (Z 6 1) a1 (-1) a2) ∧ True
    | _ => False)
set_option maxRecDepth 100000 in
set_option maxHeartbeats 40000000 in
theorem c_X10_writeX {l : Launch} {D : va_G} {cA : Nat → ClassId} : PM l D cA yX10_write cX10_write 5 (some .int) 1 21 s_X10_writeX := sorry

def s_X11_writeX : Sp := rRI 3 11 (fun as Z => match as with
    | [.inr (.inr a0), .inl a1, .inr (.inl a2)] => ((a0 = 100)) ∧ (True) ∧ (True) ∧ True
    | _ => False) (fun as => match as with
    | [.inr (.inr a0), .inl a1, .inr (.inl a2)] => [102, 6100]
    | _ => []) (fun as Z (x : Int) Z' => match as with
    | [.inr (.inr a0), .inl a1, .inr (.inl a2)] => (x = -1 ∧ ¬(1 ≤ a1 ∧ a1 ≤ 8) ∧ Z' 100 5 = Z 100 5 ∧ Z' 102 = Z 102 ∨ x = -3 ∧ (1 ≤ a1 ∧ a1 ≤ 8) ∧ 160 < Z 100 5 + a1 ∧ Z' 100 5 = Z 100 5 ∧ Z' 102 = Z 102 ∨ x = Z 100 5 + a1 ∧ (1 ≤ a1 ∧ a1 ≤ 8) ∧ Z 100 5 + a1 ≤ 160 ∧ Z' 100 5 = Z 100 5 + a1 ∧ WRB Z Z' 102 (Z 100 5) a1 (-1) a2) ∧ True
    | _ => False)
set_option maxRecDepth 100000 in
set_option maxHeartbeats 40000000 in
theorem c_X11_writeX {l : Launch} {D : va_G} {cA : Nat → ClassId} : PM l D cA yX11_write cX11_write 5 (some .int) 1 25 s_X11_writeX := sorry
