/-! ===== the law: its loop ===== -/
/-- numbers to begin with, within their ranges -/
def Zi (o k : Nat) : Int := match bnd o k with
  | some q => q.1
  | none => 0
set_option maxRecDepth 100000 in
theorem bnd_ok : ∀ (o k : Nat) (lo hi : Int), bnd o k = some (lo, hi) → lo ≤ hi ∧ -2147483648 ≤ lo ∧ lo ≤ 2147483647 := by
  have hall : bndL.all (fun e => e.2.all (fun b => match b with
    | none => true
    | some q => decide (q.1 ≤ q.2) && (decide (-2147483648 ≤ q.1) && decide (q.1 ≤ 2147483647)))) = true := by decide +kernel
  intro o k lo hi hb
  have key : ∀ (bs : List (Option (Int × Int))), bs.all (fun b => match b with
    | none => true
    | some q => decide (q.1 ≤ q.2) && (decide (-2147483648 ≤ q.1) && decide (q.1 ≤ 2147483647))) = true → some (lo, hi) ∈ bs → lo ≤ hi ∧ -2147483648 ≤ lo ∧ lo ≤ 2147483647 := by
    intro bs hbs hm
    have := List.all_eq_true.mp hbs _ hm
    simpa using this
  unfold bnd at hb
  rcases hq : bndL.getD o (true, []) with ⟨t, bs⟩
  have hbs : bs.all (fun b => match b with
    | none => true
    | some q => decide (q.1 ≤ q.2) && (decide (-2147483648 ≤ q.1) && decide (q.1 ≤ 2147483647))) = true := by
    simp only [List.getD] at hq
    rcases hg : bndL[o]? with _ | e
    · rw [hg] at hq
      cases hq
      rfl
    · rw [hg] at hq
      have he : e = (t, bs) := hq
      have := List.all_eq_true.mp hall e (List.mem_of_getElem? hg)
      rw [he] at this
      exact this
  rw [hq] at hb
  rcases t with _ | _
  · refine key bs hbs ?_
    simp only [List.getD] at hb
    rcases hg : bs[k]? with _ | x
    · rw [hg] at hb
      cases hb
    · rw [hg] at hb
      have hb2 : x = some (lo, hi) := hb
      subst hb2
      exact List.mem_of_getElem? hg
  · rcases bs with _ | ⟨b, t⟩
    · cases hb
    · refine key _ hbs ?_
      have hb2 : b = some (lo, hi) := hb
      subst hb2
      exact List.mem_cons_self
theorem Zi_ci : CI Zi := by
  intro o k lo hi hb
  unfold Zi
  rw [hb]
  exact ⟨Int.le_refl _, (bnd_ok o k lo hi hb).1⟩
theorem Zi_ok (o k : Nat) : okI (Zi o k) := by
  unfold Zi okI
  rcases hb : bnd o k with _ | ⟨lo, hi⟩
  · exact ⟨by decide, by decide⟩
  · exact (bnd_ok o k lo hi hb).2
theorem Zi_wf : WF (0, Zi, fun _ _ => 0) := by
  refine ⟨fun o k => ⟨fun _ => ?_, fun _ => Zi_ok o k⟩, fun o k => Nat.le_refl _⟩
  have := Zi_ok o k
  unfold okI at this
  unfold okL
  show _ ≤ Zi o k ∧ Zi o k ≤ _
  omega
set_option maxRecDepth 100000 in
set_option maxHeartbeats 40000000 in
theorem law_loop {L : Nat} {xs : Nat → Int} {G : GT} (hG : Clo MCL 130 (some (L, xs)) QL G) (hL : L ≤ 3584) : ∀ (fuel : Nat) (Z : ZT) (i : Int), LI Z → RLX Z → 0 ≤ i → i ≤ 3600 → 4000 - i ≤ (fuel : Int) → G 18 [(0, vr 0), (1, vr 1), (2, vr 100), (3, vi i)] [] (130, Z, R0) := by
  intro fuel
  induction fuel with
  | zero => intro Z i hZ hR h0 h1 hm; omega
  | succ fuel ih =>
    intro Z i hZ hR h0 h1 hm
    have hE : 0 ≤ i ∧ i + 7 ≤ (L : Int) → ∀ Z1, LI Z1 → RLX Z1 → G 1299 [(0, vr 0), (1, vr 1), (2, vr 100), (3, vi i)] [] (130, Z1, R0) := by
      intro hi Z1 hZ1 hr1
      refine wp_run hG [18] 3 _ _ _ _ ?_
      refine hG.2 18 _ [(0, vr 0), (1, vr 1), (2, vr 100), (3, vi (w32 (i + 7)))] _ _ rfl ?_
      have e : w32 (i + 7) = i + 7 := w32_id (by omega) (by omega)
      rw [e]
      exact ih Z1 (i + 7) hZ1 hr1 (by omega) (by omega) (by omega)
    refine wp_run hG [180, 213, 246, 279, 342, 355, 368, 381, 414, 457, 526, 569, 628, 681, 694, 737, 760, 773, 884, 897, 910, 943, 976, 1009, 1042, 1075, 1108, 1131, 1174, 1207, 1250, 1263, 1276, 1299] 40 _ _ _ _ ?_
    repeat' (first
      | with_reducible rfl
      | (refine And.intro ?_ ?_ <;> (try dsimp only))
      | (intro hc; (try simp only [cmp3_c] at hc); simp only [cmpI] at hc; (try simp (disch := omega) only [w32_id] at hc)))
    all_goals first
      | with_reducible rfl
      | exact trivial
      | decide
      | omega
      | exact rfl
      | (intro hsw; exact hE (by omega) _ hZ hR)
      | (intro hsw; (show G _ _ _ _); first
          | ((with_reducible show G 180 _ _ _); exact lc_0 hG (by omega) hL hZ hR (hE (by omega)))
          | ((with_reducible show G 213 _ _ _); exact lc_1 hG (by omega) hL hZ hR (hE (by omega)))
          | ((with_reducible show G 246 _ _ _); exact lc_2 hG (by omega) hL hZ hR (hE (by omega)))
          | ((with_reducible show G 279 _ _ _); exact lc_3 hG (by omega) hL hZ hR (hE (by omega)))
          | ((with_reducible show G 342 _ _ _); exact lc_4 hG (by omega) hL hZ hR (hE (by omega)))
          | ((with_reducible show G 355 _ _ _); exact lc_5 hG (by omega) hL hZ hR (hE (by omega)))
          | ((with_reducible show G 368 _ _ _); exact lc_6 hG (by omega) hL hZ hR (hE (by omega)))
          | ((with_reducible show G 381 _ _ _); exact lc_7 hG (by omega) hL hZ hR (hE (by omega)))
          | ((with_reducible show G 414 _ _ _); exact lc_8 hG (by omega) hL hZ hR (hE (by omega)))
          | ((with_reducible show G 457 _ _ _); exact lc_9 hG (by omega) hL hZ hR (hE (by omega)))
          | ((with_reducible show G 526 _ _ _); exact lc_10 hG (by omega) hL hZ hR (hE (by omega)))
          | ((with_reducible show G 569 _ _ _); exact lc_11 hG (by omega) hL hZ hR (hE (by omega)))
          | ((with_reducible show G 628 _ _ _); exact lc_12 hG (by omega) hL hZ hR (hE (by omega)))
          | ((with_reducible show G 681 _ _ _); exact lc_13 hG (by omega) hL hZ hR (hE (by omega)))
          | ((with_reducible show G 694 _ _ _); exact lc_14 hG (by omega) hL hZ hR (hE (by omega)))
          | ((with_reducible show G 737 _ _ _); exact lc_15 hG (by omega) hL hZ hR (hE (by omega)))
          | ((with_reducible show G 760 _ _ _); exact lc_16 hG (by omega) hL hZ hR (hE (by omega)))
          | ((with_reducible show G 773 _ _ _); exact lc_17 hG (by omega) hL hZ hR (hE (by omega)))
          | ((with_reducible show G 884 _ _ _); exact lc_18 hG (by omega) hL hZ hR (hE (by omega)))
          | ((with_reducible show G 897 _ _ _); exact lc_19 hG (by omega) hL hZ hR (hE (by omega)))
          | ((with_reducible show G 910 _ _ _); exact lc_20 hG (by omega) hL hZ hR (hE (by omega)))
          | ((with_reducible show G 943 _ _ _); exact lc_21 hG (by omega) hL hZ hR (hE (by omega)))
          | ((with_reducible show G 976 _ _ _); exact lc_22 hG (by omega) hL hZ hR (hE (by omega)))
          | ((with_reducible show G 1009 _ _ _); exact lc_23 hG (by omega) hL hZ hR (hE (by omega)))
          | ((with_reducible show G 1042 _ _ _); exact lc_24 hG (by omega) hL hZ hR (hE (by omega)))
          | ((with_reducible show G 1075 _ _ _); exact lc_25 hG (by omega) hL hZ hR (hE (by omega)))
          | ((with_reducible show G 1108 _ _ _); exact lc_26 hG (by omega) hL hZ hR (hE (by omega)))
          | ((with_reducible show G 1131 _ _ _); exact lc_27 hG (by omega) hL hZ hR (hE (by omega)))
          | ((with_reducible show G 1174 _ _ _); exact lc_28 hG (by omega) hL hZ hR (hE (by omega)))
          | ((with_reducible show G 1207 _ _ _); exact lc_29 hG (by omega) hL hZ hR (hE (by omega)))
          | ((with_reducible show G 1250 _ _ _); exact lc_30 hG (by omega) hL hZ hR (hE (by omega)))
          | ((with_reducible show G 1263 _ _ _); exact lc_31 hG (by omega) hL hZ hR (hE (by omega)))
          | ((with_reducible show G 1276 _ _ _); exact lc_32 hG (by omega) hL hZ hR (hE (by omega)))
          | fail)
      | rfl
      | skip
theorem rt0 : (fun _ _ => 0) = RT 0 := funext fun _ => funext fun _ => rfl
set_option maxRecDepth 100000 in
set_option maxHeartbeats 40000000 in
theorem law_run {L : Nat} {xs : Nat → Int} {G : GT} (hG : Clo MCL 130 (some (L, xs)) QL G) (hL : L ≤ 3584) : G 0 [(0, vr 0)] [] (0, Zi, fun _ _ => 0) := by
  refine wp_run hG [18] 40 _ _ _ _ ?_
  repeat' (first
    | with_reducible rfl
    | (refine And.intro ?_ ?_ <;> (try dsimp only))
    | (intro (r : Option PV) σ' hq
       first
       | (obtain ⟨Z', rfl, rfl, hI2, hF, hV⟩ := hq; first | (have hVA : FV10 Z' := hV) | (have hVB : FV11 Z' := hV; have hFB := hF; dsimp only at hFB; have hW := FV10_o (fun o h1 h2 => (hFB o (by omega)).trans (zro (by omega))) hVA))
       | (obtain ⟨Z', rfl, rfl, hI2⟩ := hq)))
  all_goals first
    | with_reducible rfl
    | ((with_reducible show recvG _ _); rfl)
    | decide
    | ((with_reducible show CI _); exact ci_zr Zi_ci (by rfl))
    | ((with_reducible show CIx _ _); exact cix_of (by assumption))
    | exact fun k => if_pos rfl
    | (refine hG.2 18 _ [(0, vr 0), (1, vr 1), (2, vr 100), (3, vi 0)] _ _ rfl ?_; exact law_loop hG hL 5000 _ 0 (by assumption) ⟨⟨⟨(hW.2.1.1).trans (hVB.1).symm, (hW.2.1.2.1).trans (hVB.2.1).symm⟩, (hW.2.1.2.2.1).trans (by rw [hW.2.1.1, hW.2.1.2.1]; rfl)⟩, ((hW.2.2.2.2.2.2.2.2.2.2.1.1).trans (hVB.2.2.2.1).symm), (hW.1.trans (hVB.2.2.2.2.2.2.2.2.2.1).symm), ⟨⟨(hW.2.2.2.1.1).trans (hVB.2.2.1).symm, (hW.2.2.2.1.2.1).trans (hVB.2.2.2.2.2.2.1).symm⟩, (fun k hk => (hW.2.2.2.1.2.2.2.1 k).trans (hVB.2.2.2.2.2.2.2.2.2.2.1 k).symm), (fun k hk => ((hW.2.2.2.1.2.2.1) k (by omega)).trans ((hVB.2.2.2.2.2.2.2.2.2.2.2.2.2.2.2.2.2.1) k (by omega)).symm), (fun k hk => ((hW.2.2.2.1.2.2.2.2.1) k).trans ((hVB.2.2.2.2.2.2.2.2.2.2.2.1) k).symm), (fun k hk => ((hW.2.2.2.1.2.2.2.2.2.1) k).trans ((hVB.2.2.2.2.2.2.2.2.2.2.2.2.1) k).symm), (fun k hk => ((hW.2.2.2.1.2.2.2.2.2.2.1) k).trans ((hVB.2.2.2.2.2.2.2.2.2.2.2.2.2.1) k).symm), (fun k hk => ((hW.2.2.2.1.2.2.2.2.2.2.2.1) k).trans ((hVB.2.2.2.2.2.2.2.2.2.2.2.2.2.2.1) k).symm)⟩, ⟨fun h => absurd h (by rw [hW.1]; decide), fun h => absurd h (by rw [hW.1]; decide)⟩, ⟨(hW.2.2.1).trans (hVB.2.2.2.2.1).symm, fun k hk => absurd (Int.lt_of_lt_of_le hk (Int.le_of_eq (hW.2.2.1))) (by omega)⟩, (pn_0 (hW.2.2.2.1.2.2.2.2.2.2.2.2.1) (hW.2.2.2.1.2.2.2.2.2.2.2.2.2.1) (hW.2.2.2.1.2.2.2.2.2.2.2.2.2.2.1) (hW.2.2.2.1.2.2.2.2.2.2.2.2.2.2.2) (hVB.2.2.2.2.2.1) (hVB.2.2.2.2.2.2.2.2.2.2.2.2.2.2.2.2.2.2.2.2)), ⟨fun h => absurd h (by rw [hW.1]; decide), fun h => absurd h (by rw [hW.1]; decide)⟩, (NRC_m (hW.2.1.2.2.2) (hW.2.1.1) (hW.2.1.2.1) (hW.2.2.2.1.1) (hW.2.1.2.2.1) rfl), ⟨⟨fun k hk => by rw [(hW.2.2.2.1.2.2.1) k (by omega)]; decide, fun l _ => by rw [show (29 : Nat) + 1 = 30 from rfl, (hW.2.2.2.1.2.2.2.1) l]; decide⟩, fun h => absurd h (by rw [hW.1]; decide), fun h => absurd h (by rw [hW.1]; decide)⟩, ⟨fun t ht => by rw [hW.2.2.2.1.2.2.2.2.2.2.2.2.2.1] at ht; omega, fun h => absurd h (by rw [hW.1]; decide), fun h => absurd h (by rw [hW.1]; decide)⟩, ⟨⟨hW.2.2.2.2.1.2.1, hW.2.2.2.2.2.1.2.1, hW.2.2.2.2.2.2.1.2.1, hW.2.2.2.2.2.2.2.1.2.1⟩, ⟨hW.2.2.2.2.1.2.2, hW.2.2.2.2.2.1.2.2.1, hW.2.2.2.2.2.2.1.2.2, hW.2.2.2.2.2.2.2.1.2.2⟩, hW.2.2.2.2.2.1.2.2.2⟩, (NBB_n (hW.2.2.2.2.1.1) (hW.2.2.2.2.2.1.1) (hW.2.2.2.2.2.2.1.1) (hW.2.2.2.2.2.2.2.1.1)), trivial⟩ (by decide) (by decide) (by decide))
    | ((with_reducible show _ = RT _); first | exact zr_RT (i := 0) rt0 rfl | exact zr_RT (i := 98) rfl rfl)
    | rfl
    | skip
