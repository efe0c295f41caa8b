/-! ===== running the pure machine: several steps at once ===== -/
theorem swT_mono {k k' : Nat → Prop} (h : ∀ t, k t → k' t) : ∀ (ts : List Nat) (lo x : Int), swT k ts lo x → swT k' ts lo x
  | [], _, _, _ => trivial
  | _ :: r, lo, x, q => ⟨fun e => h _ (q.1 e), swT_mono h r (lo + 1) x q.2⟩
theorem swL_mono {k k' : Nat → Prop} (h : ∀ t, k t → k' t) (d : Nat) : ∀ (ts : List Nat) (ps : List (Int × Int)) (x : Int), swL k d ts ps x → swL k' d ts ps x
  | [], _, _, q => by unfold swL at q ⊢; exact h _ q
  | _ :: _, [], _, q => by unfold swL at q ⊢; exact h _ q
  | _ :: r, (_, _) :: ps, x, q => ⟨fun e => h _ (q.1 e), fun e => swL_mono h d r ps x (q.2 e)⟩
theorem callG_mono {sp : Sp} {lim : Nat} {G G' : List PV → St → Prop} {st : List PV} {σ : St} (h : ∀ s σ', G s σ' → G' s σ') (q : callG sp lim G st σ) : callG sp lim G' st σ := ⟨q.1, q.2.1, fun r σ' z => h _ _ (q.2.2 r σ' z)⟩
set_option maxHeartbeats 4000000 in
theorem stepI_mono {P : Pool} {sp : Nat → Sp} {oi : Nat → Bool} {rt ini lim : Nat} {scr : Scr} {Q : Option PV → St → Prop} {G G' : GT} (hk : ∀ pc L st σ, G pc L st σ → G' pc L st σ) {nx : Nat} {tg : List Nat} {i : Instr} {L : LoT} {st : List PV} {σ : St} (h : stepI P sp oi rt ini lim scr Q G nx tg i L st σ) : stepI P sp oi rt ini lim scr Q G' nx tg i L st σ := by
  cases i
  case invokespecial n =>
    unfold stepI at h ⊢
    dsimp only at h ⊢
    cases hoi : oi n with
    | true =>
      rw [hoi] at h
      rcases st with _ | ⟨a | a | a, r⟩ <;> first | exact (h : False).elim | exact ⟨h.1, hk _ _ _ _ h.2⟩
    | false =>
      rw [hoi] at h
      exact ⟨h.1, callG_mono (fun _ _ => hk _ _ _ _) h.2⟩
  all_goals unfold stepI at h ⊢
  all_goals dsimp only at h ⊢
  all_goals first
    | exact h
    | exact hk _ _ _ _ h
    | exact ⟨h.1, callG_mono (fun _ _ => hk _ _ _ _) h.2⟩
    | exact callG_mono (fun _ _ => hk _ _ _ _) h
    | (repeat' split at h) <;> first
      | exact h
      | exact hk _ _ _ _ h
      | exact ⟨h.1, hk _ _ _ _ h.2⟩
      | exact ⟨h.1, h.2.1, hk _ _ _ _ h.2.2⟩
      | exact ⟨h.1, h.2.1, h.2.2.1, hk _ _ _ _ h.2.2.2⟩
      | exact ⟨h.1, h.2.1, h.2.2.1, h.2.2.2.1, hk _ _ _ _ h.2.2.2.2⟩
      | exact ⟨fun e => hk _ _ _ _ (h.1 e), fun e => hk _ _ _ _ (h.2 e)⟩
      | exact ⟨swT_mono (fun _ => hk _ _ _ _) _ _ _ h.1, fun e => hk _ _ _ _ (h.2 e)⟩
      | exact swL_mono (fun _ => hk _ _ _ _) _ _ _ _ h
      | exact h.elim
theorem stepM_mono {M : Mc} {lim : Nat} {scr : Scr} {Q : Option PV → St → Prop} {G G' : GT} (hk : ∀ pc L st σ, G pc L st σ → G' pc L st σ) {pc : Nat} {L : LoT} {st : List PV} {σ : St} (h : stepM M lim scr Q G pc L st σ) : stepM M lim scr Q G' pc L st σ := by
  unfold stepM at h ⊢
  split
  · rename_i i nx tg he
    rw [he] at h
    exact stepI_mono hk h
  · rename_i he
    rw [he] at h
    exact h
theorem wp_run {M : Mc} {lim : Nat} {scr : Scr} {Q : Option PV → St → Prop} {G : GT} (hG : Clo M lim scr Q G) (stops : List Nat) : ∀ (k pc : Nat) (L : LoT) (st : List PV) (σ : St), wp M lim scr Q G stops k pc L st σ → G pc L st σ
  | 0, _, _, _, _, h => h
  | k + 1, pc, L, st, σ, h => by
    refine hG.1 pc L st σ ?_
    have key : ∀ (pc' : Nat) (L' : LoT) (st' : List PV) (σ' : St), (bif elemN stops pc' then G pc' L' st' σ' else wp M lim scr Q G stops k pc' L' st' σ') → G pc' L' st' σ' := by
      intro pc' L' st' σ' h2
      cases hs : elemN stops pc' with
      | true => rw [hs] at h2; exact h2
      | false => rw [hs] at h2; exact wp_run hG stops k pc' L' st' σ' h2
    exact stepM_mono key h
