/-! ===== weak contracts ===== -/
def s_X3_beside : Sp := wspU 3 3 (fun as Z => match as with
    | [.inr (.inr a0), .inl a1, .inl a2] => ((a0 = 2 ∨ a0 = 4)) ∧ (True) ∧ (True) ∧ True
    | _ => False) (fun as => match as with
    | [.inr (.inr a0), .inl a1, .inl a2] => []
    | _ => [])
set_option maxRecDepth 100000 in
set_option maxHeartbeats 4000000 in
theorem c_X3_beside {l : Launch} {D : va_G} {cA : Nat → ClassId} : PM l D cA yX3_beside cX3_beside 4 (some .int) 0 0 s_X3_beside := by
  refine of_X3_beside  (fun as σ hwf hao hpre => ?_)
  obtain ⟨n, Z, R⟩ := σ
  obtain ⟨hR, hI, hpre⟩ := hpre
  obtain rfl : R = R0 := hR
  rcases as with _ | ⟨x | x | a0, _ | ⟨a1 | x | x, _ | ⟨a2 | x | x, _ | ⟨v, t⟩⟩⟩⟩ <;> first | exact (hpre : False).elim | skip
  obtain ⟨k1l, k1u⟩ : okI a1 := hao (vi a1) (by simp)
  obtain ⟨k2l, k2u⟩ : okI a2 := hao (vi a2) (by simp)
  obtain ⟨h0, h1, h2, -⟩ := hpre
  have hk : keeps ([]) Z Z := keeps_refl
  refine ⟨Nat.le_of_ble_eq_true rfl, fun G hG => ?_⟩
  clear hao hwf
  rcases h0 with rfl | rfl
  · refine wq_run hG [] 600 _ _ _ _ ?_
    repeat' (first
        | refine And.intro ?_ ?_
        | with_reducible rfl
        | refine ld_bnd (by assumption) rfl ?_
        | refine st_bnd (by assumption) (by assumption) (by decide) (fun lo hi hb => by first | (cases hb; done) | (cases hb; constructor <;> (first | omega | (simp only [w32] at *; omega)))) ?_
        | (intro (r : Option PV) σ' hq
           first
           | (obtain ⟨rfl, rfl⟩ := hq)
           | (obtain ⟨Z', x, rfl, rfl, hI2, hk2, hl2, hu2⟩ := hq; have hk3 := keeps_to (by assumption) (by rfl) hk2)
           | (obtain ⟨Z', x, rfl, rfl, hI2, hk2⟩ := hq; have hk3 := keeps_to (by assumption) (by rfl) hk2)
           | (obtain ⟨Z', rfl, rfl, hI2, hk2⟩ := hq; have hk3 := keeps_to (by assumption) (by rfl) hk2))
        | (intro hc; (try simp only [cmp3_c] at hc); simp only [cmpI] at hc)
        | (show CI _; assumption)
        | intro (_ : Int)
        | intro (_ : ZT)
        | intro (_ : CI _)
        | intro (_ : keeps _ _ _)
        | intro (_ : _ ≤ _)
        | intro (_ : _ = _)
        | intro (_ : _ < _)
        | intro (_ : _ ∨ _))
    all_goals first
      | rfl
      | exact trivial
      | omega
      | (show (0 : Int) < _; omega)
      | (simp only [w32] at *; omega)
      | exact Exists.intro _ (Exists.intro _ ⟨rfl, rfl, by assumption, by assumption, by (first | omega | (simp only [w32] at *; omega)), by (first | omega | (simp only [w32] at *; omega))⟩)
      | exact Exists.intro _ (Exists.intro _ ⟨rfl, rfl, by assumption, by assumption⟩)
      | exact Exists.intro _ ⟨rfl, rfl, by assumption, by assumption⟩
      | skip
  · refine wq_run hG [] 600 _ _ _ _ ?_
    repeat' (first
        | refine And.intro ?_ ?_
        | with_reducible rfl
        | refine ld_bnd (by assumption) rfl ?_
        | refine st_bnd (by assumption) (by assumption) (by decide) (fun lo hi hb => by first | (cases hb; done) | (cases hb; constructor <;> (first | omega | (simp only [w32] at *; omega)))) ?_
        | (intro (r : Option PV) σ' hq
           first
           | (obtain ⟨rfl, rfl⟩ := hq)
           | (obtain ⟨Z', x, rfl, rfl, hI2, hk2, hl2, hu2⟩ := hq; have hk3 := keeps_to (by assumption) (by rfl) hk2)
           | (obtain ⟨Z', x, rfl, rfl, hI2, hk2⟩ := hq; have hk3 := keeps_to (by assumption) (by rfl) hk2)
           | (obtain ⟨Z', rfl, rfl, hI2, hk2⟩ := hq; have hk3 := keeps_to (by assumption) (by rfl) hk2))
        | (intro hc; (try simp only [cmp3_c] at hc); simp only [cmpI] at hc)
        | (show CI _; assumption)
        | intro (_ : Int)
        | intro (_ : ZT)
        | intro (_ : CI _)
        | intro (_ : keeps _ _ _)
        | intro (_ : _ ≤ _)
        | intro (_ : _ = _)
        | intro (_ : _ < _)
        | intro (_ : _ ∨ _))
    all_goals first
      | rfl
      | exact trivial
      | omega
      | (show (0 : Int) < _; omega)
      | (simp only [w32] at *; omega)
      | exact Exists.intro _ (Exists.intro _ ⟨rfl, rfl, by assumption, by assumption, by (first | omega | (simp only [w32] at *; omega)), by (first | omega | (simp only [w32] at *; omega))⟩)
      | exact Exists.intro _ (Exists.intro _ ⟨rfl, rfl, by assumption, by assumption⟩)
      | exact Exists.intro _ ⟨rfl, rfl, by assumption, by assumption⟩
      | skip
def s_X0_number : Sp := wspU 4 0 (fun as Z => match as with
    | [.inr (.inr a0), .inl a1, .inl a2, .inl a3] => ((a0 = 70 ∨ a0 = 72 ∨ a0 = 74 ∨ a0 = 76)) ∧ (True) ∧ (True) ∧ (True) ∧ True
    | _ => False) (fun as => match as with
    | [.inr (.inr a0), .inl a1, .inl a2, .inl a3] => []
    | _ => [])
set_option maxRecDepth 100000 in
set_option maxHeartbeats 4000000 in
theorem c_X0_number {l : Launch} {D : va_G} {cA : Nat → ClassId} : PM l D cA yX0_number cX0_number 5 (some .int) 0 0 s_X0_number := by
  refine of_X0_number  (fun as σ hwf hao hpre => ?_)
  obtain ⟨n, Z, R⟩ := σ
  obtain ⟨hR, hI, hpre⟩ := hpre
  obtain rfl : R = R0 := hR
  rcases as with _ | ⟨x | x | a0, _ | ⟨a1 | x | x, _ | ⟨a2 | x | x, _ | ⟨a3 | x | x, _ | ⟨v, t⟩⟩⟩⟩⟩ <;> first | exact (hpre : False).elim | skip
  obtain ⟨k1l, k1u⟩ : okI a1 := hao (vi a1) (by simp)
  obtain ⟨k2l, k2u⟩ : okI a2 := hao (vi a2) (by simp)
  obtain ⟨k3l, k3u⟩ : okI a3 := hao (vi a3) (by simp)
  obtain ⟨h0, h1, h2, h3, -⟩ := hpre
  have hk : keeps ([]) Z Z := keeps_refl
  refine ⟨Nat.le_of_ble_eq_true rfl, fun G hG => ?_⟩
  clear hao hwf
  rcases h0 with rfl | rfl | rfl | rfl
  · refine wq_run hG [] 600 _ _ _ _ ?_
    repeat' (first
        | refine And.intro ?_ ?_
        | with_reducible rfl
        | refine ld_bnd (by assumption) rfl ?_
        | refine st_bnd (by assumption) (by assumption) (by decide) (fun lo hi hb => by first | (cases hb; done) | (cases hb; constructor <;> (first | omega | (simp only [w32] at *; omega)))) ?_
        | (intro (r : Option PV) σ' hq
           first
           | (obtain ⟨rfl, rfl⟩ := hq)
           | (obtain ⟨Z', x, rfl, rfl, hI2, hk2, hl2, hu2⟩ := hq; have hk3 := keeps_to (by assumption) (by rfl) hk2)
           | (obtain ⟨Z', x, rfl, rfl, hI2, hk2⟩ := hq; have hk3 := keeps_to (by assumption) (by rfl) hk2)
           | (obtain ⟨Z', rfl, rfl, hI2, hk2⟩ := hq; have hk3 := keeps_to (by assumption) (by rfl) hk2))
        | (intro hc; (try simp only [cmp3_c] at hc); simp only [cmpI] at hc)
        | (show CI _; assumption)
        | intro (_ : Int)
        | intro (_ : ZT)
        | intro (_ : CI _)
        | intro (_ : keeps _ _ _)
        | intro (_ : _ ≤ _)
        | intro (_ : _ = _)
        | intro (_ : _ < _)
        | intro (_ : _ ∨ _))
    all_goals first
      | rfl
      | exact trivial
      | omega
      | (show (0 : Int) < _; omega)
      | (simp only [w32] at *; omega)
      | exact Exists.intro _ (Exists.intro _ ⟨rfl, rfl, by assumption, by assumption, by (first | omega | (simp only [w32] at *; omega)), by (first | omega | (simp only [w32] at *; omega))⟩)
      | exact Exists.intro _ (Exists.intro _ ⟨rfl, rfl, by assumption, by assumption⟩)
      | exact Exists.intro _ ⟨rfl, rfl, by assumption, by assumption⟩
      | skip
  · refine wq_run hG [] 600 _ _ _ _ ?_
    repeat' (first
        | refine And.intro ?_ ?_
        | with_reducible rfl
        | refine ld_bnd (by assumption) rfl ?_
        | refine st_bnd (by assumption) (by assumption) (by decide) (fun lo hi hb => by first | (cases hb; done) | (cases hb; constructor <;> (first | omega | (simp only [w32] at *; omega)))) ?_
        | (intro (r : Option PV) σ' hq
           first
           | (obtain ⟨rfl, rfl⟩ := hq)
           | (obtain ⟨Z', x, rfl, rfl, hI2, hk2, hl2, hu2⟩ := hq; have hk3 := keeps_to (by assumption) (by rfl) hk2)
           | (obtain ⟨Z', x, rfl, rfl, hI2, hk2⟩ := hq; have hk3 := keeps_to (by assumption) (by rfl) hk2)
           | (obtain ⟨Z', rfl, rfl, hI2, hk2⟩ := hq; have hk3 := keeps_to (by assumption) (by rfl) hk2))
        | (intro hc; (try simp only [cmp3_c] at hc); simp only [cmpI] at hc)
        | (show CI _; assumption)
        | intro (_ : Int)
        | intro (_ : ZT)
        | intro (_ : CI _)
        | intro (_ : keeps _ _ _)
        | intro (_ : _ ≤ _)
        | intro (_ : _ = _)
        | intro (_ : _ < _)
        | intro (_ : _ ∨ _))
    all_goals first
      | rfl
      | exact trivial
      | omega
      | (show (0 : Int) < _; omega)
      | (simp only [w32] at *; omega)
      | exact Exists.intro _ (Exists.intro _ ⟨rfl, rfl, by assumption, by assumption, by (first | omega | (simp only [w32] at *; omega)), by (first | omega | (simp only [w32] at *; omega))⟩)
      | exact Exists.intro _ (Exists.intro _ ⟨rfl, rfl, by assumption, by assumption⟩)
      | exact Exists.intro _ ⟨rfl, rfl, by assumption, by assumption⟩
      | skip
  · refine wq_run hG [] 600 _ _ _ _ ?_
    repeat' (first
        | refine And.intro ?_ ?_
        | with_reducible rfl
        | refine ld_bnd (by assumption) rfl ?_
        | refine st_bnd (by assumption) (by assumption) (by decide) (fun lo hi hb => by first | (cases hb; done) | (cases hb; constructor <;> (first | omega | (simp only [w32] at *; omega)))) ?_
        | (intro (r : Option PV) σ' hq
           first
           | (obtain ⟨rfl, rfl⟩ := hq)
           | (obtain ⟨Z', x, rfl, rfl, hI2, hk2, hl2, hu2⟩ := hq; have hk3 := keeps_to (by assumption) (by rfl) hk2)
           | (obtain ⟨Z', x, rfl, rfl, hI2, hk2⟩ := hq; have hk3 := keeps_to (by assumption) (by rfl) hk2)
           | (obtain ⟨Z', rfl, rfl, hI2, hk2⟩ := hq; have hk3 := keeps_to (by assumption) (by rfl) hk2))
        | (intro hc; (try simp only [cmp3_c] at hc); simp only [cmpI] at hc)
        | (show CI _; assumption)
        | intro (_ : Int)
        | intro (_ : ZT)
        | intro (_ : CI _)
        | intro (_ : keeps _ _ _)
        | intro (_ : _ ≤ _)
        | intro (_ : _ = _)
        | intro (_ : _ < _)
        | intro (_ : _ ∨ _))
    all_goals first
      | rfl
      | exact trivial
      | omega
      | (show (0 : Int) < _; omega)
      | (simp only [w32] at *; omega)
      | exact Exists.intro _ (Exists.intro _ ⟨rfl, rfl, by assumption, by assumption, by (first | omega | (simp only [w32] at *; omega)), by (first | omega | (simp only [w32] at *; omega))⟩)
      | exact Exists.intro _ (Exists.intro _ ⟨rfl, rfl, by assumption, by assumption⟩)
      | exact Exists.intro _ ⟨rfl, rfl, by assumption, by assumption⟩
      | skip
  · refine wq_run hG [] 600 _ _ _ _ ?_
    repeat' (first
        | refine And.intro ?_ ?_
        | with_reducible rfl
        | refine ld_bnd (by assumption) rfl ?_
        | refine st_bnd (by assumption) (by assumption) (by decide) (fun lo hi hb => by first | (cases hb; done) | (cases hb; constructor <;> (first | omega | (simp only [w32] at *; omega)))) ?_
        | (intro (r : Option PV) σ' hq
           first
           | (obtain ⟨rfl, rfl⟩ := hq)
           | (obtain ⟨Z', x, rfl, rfl, hI2, hk2, hl2, hu2⟩ := hq; have hk3 := keeps_to (by assumption) (by rfl) hk2)
           | (obtain ⟨Z', x, rfl, rfl, hI2, hk2⟩ := hq; have hk3 := keeps_to (by assumption) (by rfl) hk2)
           | (obtain ⟨Z', rfl, rfl, hI2, hk2⟩ := hq; have hk3 := keeps_to (by assumption) (by rfl) hk2))
        | (intro hc; (try simp only [cmp3_c] at hc); simp only [cmpI] at hc)
        | (show CI _; assumption)
        | intro (_ : Int)
        | intro (_ : ZT)
        | intro (_ : CI _)
        | intro (_ : keeps _ _ _)
        | intro (_ : _ ≤ _)
        | intro (_ : _ = _)
        | intro (_ : _ < _)
        | intro (_ : _ ∨ _))
    all_goals first
      | rfl
      | exact trivial
      | omega
      | (show (0 : Int) < _; omega)
      | (simp only [w32] at *; omega)
      | exact Exists.intro _ (Exists.intro _ ⟨rfl, rfl, by assumption, by assumption, by (first | omega | (simp only [w32] at *; omega)), by (first | omega | (simp only [w32] at *; omega))⟩)
      | exact Exists.intro _ (Exists.intro _ ⟨rfl, rfl, by assumption, by assumption⟩)
      | exact Exists.intro _ ⟨rfl, rfl, by assumption, by assumption⟩
      | skip
def s_X0_set : Sp := wspV 5 0 (fun as Z => match as with
    | [.inr (.inr a0), .inl a1, .inl a2, .inl a3, .inl a4] => ((a0 = 70 ∨ a0 = 72 ∨ a0 = 74 ∨ a0 = 76)) ∧ (True) ∧ (True) ∧ (True) ∧ (True) ∧ True
    | _ => False) (fun as => match as with
    | [.inr (.inr a0), .inl a1, .inl a2, .inl a3, .inl a4] => [a0 + 1]
    | _ => [])
set_option maxRecDepth 100000 in
set_option maxHeartbeats 4000000 in
theorem c_X0_set {l : Launch} {D : va_G} {cA : Nat → ClassId} : PM l D cA yX0_set cX0_set 6 none 0 0 s_X0_set := by
  refine of_X0_set  (fun as σ hwf hao hpre => ?_)
  obtain ⟨n, Z, R⟩ := σ
  obtain ⟨hR, hI, hpre⟩ := hpre
  obtain rfl : R = R0 := hR
  rcases as with _ | ⟨x | x | a0, _ | ⟨a1 | x | x, _ | ⟨a2 | x | x, _ | ⟨a3 | x | x, _ | ⟨a4 | x | x, _ | ⟨v, t⟩⟩⟩⟩⟩⟩ <;> first | exact (hpre : False).elim | skip
  obtain ⟨k1l, k1u⟩ : okI a1 := hao (vi a1) (by simp)
  obtain ⟨k2l, k2u⟩ : okI a2 := hao (vi a2) (by simp)
  obtain ⟨k3l, k3u⟩ : okI a3 := hao (vi a3) (by simp)
  obtain ⟨k4l, k4u⟩ : okI a4 := hao (vi a4) (by simp)
  obtain ⟨h0, h1, h2, h3, h4, -⟩ := hpre
  have hk : keeps ([a0 + 1]) Z Z := keeps_refl
  refine ⟨Nat.le_of_ble_eq_true rfl, fun G hG => ?_⟩
  clear hao hwf
  rcases h0 with rfl | rfl | rfl | rfl
  · refine wq_run hG [] 600 _ _ _ _ ?_
    repeat' (first
        | refine And.intro ?_ ?_
        | with_reducible rfl
        | refine ld_bnd (by assumption) rfl ?_
        | refine st_bnd (by assumption) (by assumption) (by decide) (fun lo hi hb => by first | (cases hb; done) | (cases hb; constructor <;> (first | omega | (simp only [w32] at *; omega)))) ?_
        | (intro (r : Option PV) σ' hq
           first
           | (obtain ⟨rfl, rfl⟩ := hq)
           | (obtain ⟨Z', x, rfl, rfl, hI2, hk2, hl2, hu2⟩ := hq; have hk3 := keeps_to (by assumption) (by rfl) hk2)
           | (obtain ⟨Z', x, rfl, rfl, hI2, hk2⟩ := hq; have hk3 := keeps_to (by assumption) (by rfl) hk2)
           | (obtain ⟨Z', rfl, rfl, hI2, hk2⟩ := hq; have hk3 := keeps_to (by assumption) (by rfl) hk2))
        | (intro hc; (try simp only [cmp3_c] at hc); simp only [cmpI] at hc)
        | (show CI _; assumption)
        | intro (_ : Int)
        | intro (_ : ZT)
        | intro (_ : CI _)
        | intro (_ : keeps _ _ _)
        | intro (_ : _ ≤ _)
        | intro (_ : _ = _)
        | intro (_ : _ < _)
        | intro (_ : _ ∨ _))
    all_goals first
      | rfl
      | exact trivial
      | omega
      | (show (0 : Int) < _; omega)
      | (simp only [w32] at *; omega)
      | exact Exists.intro _ (Exists.intro _ ⟨rfl, rfl, by assumption, by assumption, by (first | omega | (simp only [w32] at *; omega)), by (first | omega | (simp only [w32] at *; omega))⟩)
      | exact Exists.intro _ (Exists.intro _ ⟨rfl, rfl, by assumption, by assumption⟩)
      | exact Exists.intro _ ⟨rfl, rfl, by assumption, by assumption⟩
      | skip
  · refine wq_run hG [] 600 _ _ _ _ ?_
    repeat' (first
        | refine And.intro ?_ ?_
        | with_reducible rfl
        | refine ld_bnd (by assumption) rfl ?_
        | refine st_bnd (by assumption) (by assumption) (by decide) (fun lo hi hb => by first | (cases hb; done) | (cases hb; constructor <;> (first | omega | (simp only [w32] at *; omega)))) ?_
        | (intro (r : Option PV) σ' hq
           first
           | (obtain ⟨rfl, rfl⟩ := hq)
           | (obtain ⟨Z', x, rfl, rfl, hI2, hk2, hl2, hu2⟩ := hq; have hk3 := keeps_to (by assumption) (by rfl) hk2)
           | (obtain ⟨Z', x, rfl, rfl, hI2, hk2⟩ := hq; have hk3 := keeps_to (by assumption) (by rfl) hk2)
           | (obtain ⟨Z', rfl, rfl, hI2, hk2⟩ := hq; have hk3 := keeps_to (by assumption) (by rfl) hk2))
        | (intro hc; (try simp only [cmp3_c] at hc); simp only [cmpI] at hc)
        | (show CI _; assumption)
        | intro (_ : Int)
        | intro (_ : ZT)
        | intro (_ : CI _)
        | intro (_ : keeps _ _ _)
        | intro (_ : _ ≤ _)
        | intro (_ : _ = _)
        | intro (_ : _ < _)
        | intro (_ : _ ∨ _))
    all_goals first
      | rfl
      | exact trivial
      | omega
      | (show (0 : Int) < _; omega)
      | (simp only [w32] at *; omega)
      | exact Exists.intro _ (Exists.intro _ ⟨rfl, rfl, by assumption, by assumption, by (first | omega | (simp only [w32] at *; omega)), by (first | omega | (simp only [w32] at *; omega))⟩)
      | exact Exists.intro _ (Exists.intro _ ⟨rfl, rfl, by assumption, by assumption⟩)
      | exact Exists.intro _ ⟨rfl, rfl, by assumption, by assumption⟩
      | skip
  · refine wq_run hG [] 600 _ _ _ _ ?_
    repeat' (first
        | refine And.intro ?_ ?_
        | with_reducible rfl
        | refine ld_bnd (by assumption) rfl ?_
        | refine st_bnd (by assumption) (by assumption) (by decide) (fun lo hi hb => by first | (cases hb; done) | (cases hb; constructor <;> (first | omega | (simp only [w32] at *; omega)))) ?_
        | (intro (r : Option PV) σ' hq
           first
           | (obtain ⟨rfl, rfl⟩ := hq)
           | (obtain ⟨Z', x, rfl, rfl, hI2, hk2, hl2, hu2⟩ := hq; have hk3 := keeps_to (by assumption) (by rfl) hk2)
           | (obtain ⟨Z', x, rfl, rfl, hI2, hk2⟩ := hq; have hk3 := keeps_to (by assumption) (by rfl) hk2)
           | (obtain ⟨Z', rfl, rfl, hI2, hk2⟩ := hq; have hk3 := keeps_to (by assumption) (by rfl) hk2))
        | (intro hc; (try simp only [cmp3_c] at hc); simp only [cmpI] at hc)
        | (show CI _; assumption)
        | intro (_ : Int)
        | intro (_ : ZT)
        | intro (_ : CI _)
        | intro (_ : keeps _ _ _)
        | intro (_ : _ ≤ _)
        | intro (_ : _ = _)
        | intro (_ : _ < _)
        | intro (_ : _ ∨ _))
    all_goals first
      | rfl
      | exact trivial
      | omega
      | (show (0 : Int) < _; omega)
      | (simp only [w32] at *; omega)
      | exact Exists.intro _ (Exists.intro _ ⟨rfl, rfl, by assumption, by assumption, by (first | omega | (simp only [w32] at *; omega)), by (first | omega | (simp only [w32] at *; omega))⟩)
      | exact Exists.intro _ (Exists.intro _ ⟨rfl, rfl, by assumption, by assumption⟩)
      | exact Exists.intro _ ⟨rfl, rfl, by assumption, by assumption⟩
      | skip
  · refine wq_run hG [] 600 _ _ _ _ ?_
    repeat' (first
        | refine And.intro ?_ ?_
        | with_reducible rfl
        | refine ld_bnd (by assumption) rfl ?_
        | refine st_bnd (by assumption) (by assumption) (by decide) (fun lo hi hb => by first | (cases hb; done) | (cases hb; constructor <;> (first | omega | (simp only [w32] at *; omega)))) ?_
        | (intro (r : Option PV) σ' hq
           first
           | (obtain ⟨rfl, rfl⟩ := hq)
           | (obtain ⟨Z', x, rfl, rfl, hI2, hk2, hl2, hu2⟩ := hq; have hk3 := keeps_to (by assumption) (by rfl) hk2)
           | (obtain ⟨Z', x, rfl, rfl, hI2, hk2⟩ := hq; have hk3 := keeps_to (by assumption) (by rfl) hk2)
           | (obtain ⟨Z', rfl, rfl, hI2, hk2⟩ := hq; have hk3 := keeps_to (by assumption) (by rfl) hk2))
        | (intro hc; (try simp only [cmp3_c] at hc); simp only [cmpI] at hc)
        | (show CI _; assumption)
        | intro (_ : Int)
        | intro (_ : ZT)
        | intro (_ : CI _)
        | intro (_ : keeps _ _ _)
        | intro (_ : _ ≤ _)
        | intro (_ : _ = _)
        | intro (_ : _ < _)
        | intro (_ : _ ∨ _))
    all_goals first
      | rfl
      | exact trivial
      | omega
      | (show (0 : Int) < _; omega)
      | (simp only [w32] at *; omega)
      | exact Exists.intro _ (Exists.intro _ ⟨rfl, rfl, by assumption, by assumption, by (first | omega | (simp only [w32] at *; omega)), by (first | omega | (simp only [w32] at *; omega))⟩)
      | exact Exists.intro _ (Exists.intro _ ⟨rfl, rfl, by assumption, by assumption⟩)
      | exact Exists.intro _ ⟨rfl, rfl, by assumption, by assumption⟩
      | skip
def s_X9_ended : Sp := wspU 3 9 (fun as Z => match as with
    | [.inr (.inr a0), .inl a1, .inl a2] => ((a0 = 88 ∨ a0 = 95)) ∧ (True) ∧ (True) ∧ True
    | _ => False) (fun as => match as with
    | [.inr (.inr a0), .inl a1, .inl a2] => []
    | _ => [])
set_option maxRecDepth 100000 in
set_option maxHeartbeats 4000000 in
theorem c_X9_ended {l : Launch} {D : va_G} {cA : Nat → ClassId} : PM l D cA yX9_ended cX9_ended 4 (some .int) 0 0 s_X9_ended := by
  refine of_X9_ended  (fun as σ hwf hao hpre => ?_)
  obtain ⟨n, Z, R⟩ := σ
  obtain ⟨hR, hI, hpre⟩ := hpre
  obtain rfl : R = R0 := hR
  rcases as with _ | ⟨x | x | a0, _ | ⟨a1 | x | x, _ | ⟨a2 | x | x, _ | ⟨v, t⟩⟩⟩⟩ <;> first | exact (hpre : False).elim | skip
  obtain ⟨k1l, k1u⟩ : okI a1 := hao (vi a1) (by simp)
  obtain ⟨k2l, k2u⟩ : okI a2 := hao (vi a2) (by simp)
  obtain ⟨h0, h1, h2, -⟩ := hpre
  have hk : keeps ([]) Z Z := keeps_refl
  refine ⟨Nat.le_of_ble_eq_true rfl, fun G hG => ?_⟩
  clear hao hwf
  rcases h0 with rfl | rfl
  · refine wq_run hG [] 600 _ _ _ _ ?_
    repeat' (first
        | refine And.intro ?_ ?_
        | with_reducible rfl
        | refine ld_bnd (by assumption) rfl ?_
        | refine st_bnd (by assumption) (by assumption) (by decide) (fun lo hi hb => by first | (cases hb; done) | (cases hb; constructor <;> (first | omega | (simp only [w32] at *; omega)))) ?_
        | (intro (r : Option PV) σ' hq
           first
           | (obtain ⟨rfl, rfl⟩ := hq)
           | (obtain ⟨Z', x, rfl, rfl, hI2, hk2, hl2, hu2⟩ := hq; have hk3 := keeps_to (by assumption) (by rfl) hk2)
           | (obtain ⟨Z', x, rfl, rfl, hI2, hk2⟩ := hq; have hk3 := keeps_to (by assumption) (by rfl) hk2)
           | (obtain ⟨Z', rfl, rfl, hI2, hk2⟩ := hq; have hk3 := keeps_to (by assumption) (by rfl) hk2))
        | (intro hc; (try simp only [cmp3_c] at hc); simp only [cmpI] at hc)
        | (show CI _; assumption)
        | intro (_ : Int)
        | intro (_ : ZT)
        | intro (_ : CI _)
        | intro (_ : keeps _ _ _)
        | intro (_ : _ ≤ _)
        | intro (_ : _ = _)
        | intro (_ : _ < _)
        | intro (_ : _ ∨ _))
    all_goals first
      | rfl
      | exact trivial
      | omega
      | (show (0 : Int) < _; omega)
      | (simp only [w32] at *; omega)
      | exact Exists.intro _ (Exists.intro _ ⟨rfl, rfl, by assumption, by assumption, by (first | omega | (simp only [w32] at *; omega)), by (first | omega | (simp only [w32] at *; omega))⟩)
      | exact Exists.intro _ (Exists.intro _ ⟨rfl, rfl, by assumption, by assumption⟩)
      | exact Exists.intro _ ⟨rfl, rfl, by assumption, by assumption⟩
      | skip
  · refine wq_run hG [] 600 _ _ _ _ ?_
    repeat' (first
        | refine And.intro ?_ ?_
        | with_reducible rfl
        | refine ld_bnd (by assumption) rfl ?_
        | refine st_bnd (by assumption) (by assumption) (by decide) (fun lo hi hb => by first | (cases hb; done) | (cases hb; constructor <;> (first | omega | (simp only [w32] at *; omega)))) ?_
        | (intro (r : Option PV) σ' hq
           first
           | (obtain ⟨rfl, rfl⟩ := hq)
           | (obtain ⟨Z', x, rfl, rfl, hI2, hk2, hl2, hu2⟩ := hq; have hk3 := keeps_to (by assumption) (by rfl) hk2)
           | (obtain ⟨Z', x, rfl, rfl, hI2, hk2⟩ := hq; have hk3 := keeps_to (by assumption) (by rfl) hk2)
           | (obtain ⟨Z', rfl, rfl, hI2, hk2⟩ := hq; have hk3 := keeps_to (by assumption) (by rfl) hk2))
        | (intro hc; (try simp only [cmp3_c] at hc); simp only [cmpI] at hc)
        | (show CI _; assumption)
        | intro (_ : Int)
        | intro (_ : ZT)
        | intro (_ : CI _)
        | intro (_ : keeps _ _ _)
        | intro (_ : _ ≤ _)
        | intro (_ : _ = _)
        | intro (_ : _ < _)
        | intro (_ : _ ∨ _))
    all_goals first
      | rfl
      | exact trivial
      | omega
      | (show (0 : Int) < _; omega)
      | (simp only [w32] at *; omega)
      | exact Exists.intro _ (Exists.intro _ ⟨rfl, rfl, by assumption, by assumption, by (first | omega | (simp only [w32] at *; omega)), by (first | omega | (simp only [w32] at *; omega))⟩)
      | exact Exists.intro _ (Exists.intro _ ⟨rfl, rfl, by assumption, by assumption⟩)
      | exact Exists.intro _ ⟨rfl, rfl, by assumption, by assumption⟩
      | skip
def s_X9_lastMinute : Sp := wspU 3 9 (fun as Z => match as with
    | [.inr (.inr a0), .inr (.inr a1), .inl a2] => ((a0 = 88 ∨ a0 = 95)) ∧ ((a1 = 2)) ∧ (True) ∧ True
    | _ => False) (fun as => match as with
    | [.inr (.inr a0), .inr (.inr a1), .inl a2] => []
    | _ => [])
set_option maxRecDepth 100000 in
set_option maxHeartbeats 4000000 in
theorem c_X9_lastMinute {l : Launch} {D : va_G} {cA : Nat → ClassId} : PM l D cA yX9_lastMinute cX9_lastMinute 5 (some .int) 1 23 s_X9_lastMinute := by
  refine of_X9_lastMinute (c_X9_ended) ⟨rfl, rfl⟩ (c_J9_max) ⟨rfl, rfl⟩ (fun as σ hwf hao hpre => ?_)
  obtain ⟨n, Z, R⟩ := σ
  obtain ⟨hR, hI, hpre⟩ := hpre
  obtain rfl : R = R0 := hR
  rcases as with _ | ⟨x | x | a0, _ | ⟨x | x | a1, _ | ⟨a2 | x | x, _ | ⟨v, t⟩⟩⟩⟩ <;> first | exact (hpre : False).elim | skip
  obtain ⟨k2l, k2u⟩ : okI a2 := hao (vi a2) (by simp)
  obtain ⟨h0, h1, h2, -⟩ := hpre
  have hk : keeps ([]) Z Z := keeps_refl
  refine ⟨Nat.le_of_ble_eq_true rfl, fun G hG => ?_⟩
  clear hao hwf
  rcases h0 with rfl | rfl
  · obtain rfl := h1
    have loop : ∀ fuel : Nat, (∀ (Z1 : ZT) (x : Int) (c : Int), CI Z1 → keeps ([]) Z Z1 → ((0 ≤ c ∧ c ≤ 36) ∧ True) → 37 - c ≤ (fuel : Int) → G 5 [(0, vr 88), (1, vr 2), (2, vi a2), (3, vi x), (4, vi c)] [] (n, Z1, R0)) := by
      intro fuel
      induction fuel with
      | zero => intros; omega
      | succ fuel ih =>
        have ih5 := ih
        · intro Z1 x c hI1 hk1 hv hm
          obtain ⟨v0, -⟩ := hv
          clear hk hI
          refine wq_run hG [5] 600 _ _ _ _ ?_
          repeat' (first
              | refine And.intro ?_ ?_
              | with_reducible rfl
              | refine ld_bnd (by assumption) rfl ?_
              | refine st_bnd (by assumption) (by assumption) (by decide) (fun lo hi hb => by first | (cases hb; done) | (cases hb; constructor <;> (first | omega | (simp only [w32] at *; omega)))) ?_
              | (intro (r : Option PV) σ' hq
                 first
                 | (obtain ⟨rfl, rfl⟩ := hq)
                 | (obtain ⟨Z', x, rfl, rfl, hI2, hk2, hl2, hu2⟩ := hq; have hk3 := keeps_to (by assumption) (by rfl) hk2)
                 | (obtain ⟨Z', x, rfl, rfl, hI2, hk2⟩ := hq; have hk3 := keeps_to (by assumption) (by rfl) hk2)
                 | (obtain ⟨Z', rfl, rfl, hI2, hk2⟩ := hq; have hk3 := keeps_to (by assumption) (by rfl) hk2))
              | (intro hc; (try simp only [cmp3_c] at hc); simp only [cmpI] at hc)
              | (show CI _; assumption)
              | intro (_ : Int)
              | intro (_ : ZT)
              | intro (_ : CI _)
              | intro (_ : keeps _ _ _)
              | intro (_ : _ ≤ _)
              | intro (_ : _ = _)
              | intro (_ : _ < _)
              | intro (_ : _ ∨ _))
          all_goals first
            | rfl
            | exact trivial
            | omega
            | (show (0 : Int) < _; omega)
            | (simp only [w32] at *; omega)
            | exact Exists.intro _ (Exists.intro _ ⟨rfl, rfl, by assumption, by assumption, by (first | omega | (simp only [w32] at *; omega)), by (first | omega | (simp only [w32] at *; omega))⟩)
            | exact Exists.intro _ (Exists.intro _ ⟨rfl, rfl, by assumption, by assumption⟩)
            | exact Exists.intro _ ⟨rfl, rfl, by assumption, by assumption⟩
            | exact hG.2 5 _ [(0, vr 88), (1, vr 2), (2, vi a2), (3, vi _), (4, vi _)] _ _ rfl (ih5 _ _ _ (by assumption) (by assumption) (by refine ⟨by first | omega | (simp only [w32] at *; omega), trivial⟩) (by first | omega | (simp only [w32] at *; omega)))
            | skip
    refine wq_run hG [5] 600 _ _ _ _ ?_
    repeat' (first
        | refine And.intro ?_ ?_
        | with_reducible rfl
        | refine ld_bnd (by assumption) rfl ?_
        | refine st_bnd (by assumption) (by assumption) (by decide) (fun lo hi hb => by first | (cases hb; done) | (cases hb; constructor <;> (first | omega | (simp only [w32] at *; omega)))) ?_
        | (intro (r : Option PV) σ' hq
           first
           | (obtain ⟨rfl, rfl⟩ := hq)
           | (obtain ⟨Z', x, rfl, rfl, hI2, hk2, hl2, hu2⟩ := hq; have hk3 := keeps_to (by assumption) (by rfl) hk2)
           | (obtain ⟨Z', x, rfl, rfl, hI2, hk2⟩ := hq; have hk3 := keeps_to (by assumption) (by rfl) hk2)
           | (obtain ⟨Z', rfl, rfl, hI2, hk2⟩ := hq; have hk3 := keeps_to (by assumption) (by rfl) hk2))
        | (intro hc; (try simp only [cmp3_c] at hc); simp only [cmpI] at hc)
        | (show CI _; assumption)
        | intro (_ : Int)
        | intro (_ : ZT)
        | intro (_ : CI _)
        | intro (_ : keeps _ _ _)
        | intro (_ : _ ≤ _)
        | intro (_ : _ = _)
        | intro (_ : _ < _)
        | intro (_ : _ ∨ _))
    all_goals (have lp5 := loop 100000)
    all_goals first
      | rfl
      | exact trivial
      | omega
      | (show (0 : Int) < _; omega)
      | (simp only [w32] at *; omega)
      | exact Exists.intro _ (Exists.intro _ ⟨rfl, rfl, by assumption, by assumption, by (first | omega | (simp only [w32] at *; omega)), by (first | omega | (simp only [w32] at *; omega))⟩)
      | exact Exists.intro _ (Exists.intro _ ⟨rfl, rfl, by assumption, by assumption⟩)
      | exact Exists.intro _ ⟨rfl, rfl, by assumption, by assumption⟩
      | exact hG.2 5 _ [(0, vr 88), (1, vr 2), (2, vi a2), (3, vi _), (4, vi _)] _ _ rfl (lp5 _ _ _ (by assumption) (by assumption) (by refine ⟨by first | omega | (simp only [w32] at *; omega), trivial⟩) (by first | omega | (simp only [w32] at *; omega)))
      | skip
  · obtain rfl := h1
    have loop : ∀ fuel : Nat, (∀ (Z1 : ZT) (x : Int) (c : Int), CI Z1 → keeps ([]) Z Z1 → ((0 ≤ c ∧ c ≤ 36) ∧ True) → 37 - c ≤ (fuel : Int) → G 5 [(0, vr 95), (1, vr 2), (2, vi a2), (3, vi x), (4, vi c)] [] (n, Z1, R0)) := by
      intro fuel
      induction fuel with
      | zero => intros; omega
      | succ fuel ih =>
        have ih5 := ih
        · intro Z1 x c hI1 hk1 hv hm
          obtain ⟨v0, -⟩ := hv
          clear hk hI
          refine wq_run hG [5] 600 _ _ _ _ ?_
          repeat' (first
              | refine And.intro ?_ ?_
              | with_reducible rfl
              | refine ld_bnd (by assumption) rfl ?_
              | refine st_bnd (by assumption) (by assumption) (by decide) (fun lo hi hb => by first | (cases hb; done) | (cases hb; constructor <;> (first | omega | (simp only [w32] at *; omega)))) ?_
              | (intro (r : Option PV) σ' hq
                 first
                 | (obtain ⟨rfl, rfl⟩ := hq)
                 | (obtain ⟨Z', x, rfl, rfl, hI2, hk2, hl2, hu2⟩ := hq; have hk3 := keeps_to (by assumption) (by rfl) hk2)
                 | (obtain ⟨Z', x, rfl, rfl, hI2, hk2⟩ := hq; have hk3 := keeps_to (by assumption) (by rfl) hk2)
                 | (obtain ⟨Z', rfl, rfl, hI2, hk2⟩ := hq; have hk3 := keeps_to (by assumption) (by rfl) hk2))
              | (intro hc; (try simp only [cmp3_c] at hc); simp only [cmpI] at hc)
              | (show CI _; assumption)
              | intro (_ : Int)
              | intro (_ : ZT)
              | intro (_ : CI _)
              | intro (_ : keeps _ _ _)
              | intro (_ : _ ≤ _)
              | intro (_ : _ = _)
              | intro (_ : _ < _)
              | intro (_ : _ ∨ _))
          all_goals first
            | rfl
            | exact trivial
            | omega
            | (show (0 : Int) < _; omega)
            | (simp only [w32] at *; omega)
            | exact Exists.intro _ (Exists.intro _ ⟨rfl, rfl, by assumption, by assumption, by (first | omega | (simp only [w32] at *; omega)), by (first | omega | (simp only [w32] at *; omega))⟩)
            | exact Exists.intro _ (Exists.intro _ ⟨rfl, rfl, by assumption, by assumption⟩)
            | exact Exists.intro _ ⟨rfl, rfl, by assumption, by assumption⟩
            | exact hG.2 5 _ [(0, vr 95), (1, vr 2), (2, vi a2), (3, vi _), (4, vi _)] _ _ rfl (ih5 _ _ _ (by assumption) (by assumption) (by refine ⟨by first | omega | (simp only [w32] at *; omega), trivial⟩) (by first | omega | (simp only [w32] at *; omega)))
            | skip
    refine wq_run hG [5] 600 _ _ _ _ ?_
    repeat' (first
        | refine And.intro ?_ ?_
        | with_reducible rfl
        | refine ld_bnd (by assumption) rfl ?_
        | refine st_bnd (by assumption) (by assumption) (by decide) (fun lo hi hb => by first | (cases hb; done) | (cases hb; constructor <;> (first | omega | (simp only [w32] at *; omega)))) ?_
        | (intro (r : Option PV) σ' hq
           first
           | (obtain ⟨rfl, rfl⟩ := hq)
           | (obtain ⟨Z', x, rfl, rfl, hI2, hk2, hl2, hu2⟩ := hq; have hk3 := keeps_to (by assumption) (by rfl) hk2)
           | (obtain ⟨Z', x, rfl, rfl, hI2, hk2⟩ := hq; have hk3 := keeps_to (by assumption) (by rfl) hk2)
           | (obtain ⟨Z', rfl, rfl, hI2, hk2⟩ := hq; have hk3 := keeps_to (by assumption) (by rfl) hk2))
        | (intro hc; (try simp only [cmp3_c] at hc); simp only [cmpI] at hc)
        | (show CI _; assumption)
        | intro (_ : Int)
        | intro (_ : ZT)
        | intro (_ : CI _)
        | intro (_ : keeps _ _ _)
        | intro (_ : _ ≤ _)
        | intro (_ : _ = _)
        | intro (_ : _ < _)
        | intro (_ : _ ∨ _))
    all_goals (have lp5 := loop 100000)
    all_goals first
      | rfl
      | exact trivial
      | omega
      | (show (0 : Int) < _; omega)
      | (simp only [w32] at *; omega)
      | exact Exists.intro _ (Exists.intro _ ⟨rfl, rfl, by assumption, by assumption, by (first | omega | (simp only [w32] at *; omega)), by (first | omega | (simp only [w32] at *; omega))⟩)
      | exact Exists.intro _ (Exists.intro _ ⟨rfl, rfl, by assumption, by assumption⟩)
      | exact Exists.intro _ ⟨rfl, rfl, by assumption, by assumption⟩
      | exact hG.2 5 _ [(0, vr 95), (1, vr 2), (2, vi a2), (3, vi _), (4, vi _)] _ _ rfl (lp5 _ _ _ (by assumption) (by assumption) (by refine ⟨by first | omega | (simp only [w32] at *; omega), trivial⟩) (by first | omega | (simp only [w32] at *; omega)))
      | skip
