/-! ===== every instruction: a step of the pure machine is a step of the machine ===== -/
theorem chk1 {cc : ByteArray} {nL : Nat} {cl : Cl} {oi : Nat → Bool} {pc nx : Nat} {tg : List Nat} {i : Instr} (h : chkE cc nL cl oi (pc, i, nx, tg) = true) (h1 : ∀ d lo hi offs, i ≠ .tableswitch d lo hi offs) (h2 : ∀ d ps, i ≠ .lookupswitch d ps) : decode cc pc = .ok (i, ilen i) ∧ nx = pc + ilen i ∧ exE nL cl oi pc tg i = true := by
  unfold chkE at h
  split at h
  · exact absurd (by assumption) (h1 _ _ _ _)
  · exact absurd (by assumption) (h2 _ _)
  · simp only [Bool.and_eq_true, decide_eq_true_eq] at h
    exact ⟨h.1, Nat.eq_of_beq_eq_true h.2.1, h.2.2⟩
theorem jmp1 {pc t : Nat} {o : Int} (h : jmp pc [o] [t] = true) : (pc : Int) + o = (t : Int) := by
  have h1 := of_decide_eq_true h
  exact (List.cons.inj h1).1
theorem swT_get {k : Nat → Prop} : ∀ (ts : List Nat) (lo x : Int), swT k ts lo x → ∀ (j : Nat) (t : Nat), ts[j]? = some t → x = lo + j → k t
  | [], _, _, _, _, _, ht, _ => by simp at ht
  | a :: r, lo, x, h, j, t, ht, hx => by
    cases j with
    | zero =>
      rw [List.getElem?_cons_zero] at ht
      cases ht
      exact h.1 (by omega)
    | succ j =>
      rw [List.getElem?_cons_succ] at ht
      exact swT_get r (lo + 1) x h.2 j t ht (by omega)
theorem sw_off {x : Int} (hx : okI x) : ∀ (ps : List (Int × Int)) (ts : List Nat) (pc : Nat) (k : Nat → Prop) (d : Int) (dt : Nat), (pc : Int) + d = dt → ps.map (fun q => (pc : Int) + q.2) = ts.map Int.ofNat → swL k dt ts ps x → ∃ t : Nat, (pc : Int) + Op.lookupswitch.offset ps d x = (t : Int) ∧ k t
  | [], [], pc, k, d, dt, hd, _, h => ⟨dt, hd, h⟩
  | [], _ :: _, _, _, _, _, _, hm, _ => by simp at hm
  | _ :: _, [], _, _, _, _, _, hm, _ => by simp at hm
  | (a, o) :: ps, t :: ts, pc, k, d, dt, hd, hm, h => by
    obtain ⟨h1, h2⟩ := h
    simp only [List.map_cons, List.cons.injEq] at hm
    by_cases hxa : x = a
    · refine ⟨t, ?_, h1 hxa⟩
      subst hxa
      simp only [Op.lookupswitch.offset]
      simpa using hm.1
    · obtain ⟨t2, h3, h4⟩ := sw_off hx ps ts pc k d dt hd hm.2 (h2 hxa)
      refine ⟨t2, ?_, h4⟩
      rw [← h3]
      simp [Op.lookupswitch.offset, Ne.symm hxa, hxa]
abbrev PoolOk (own : String) (P : Pool) : Prop :=
  (∀ n ci k, P.1 n = some (ci, k) → ci < 12 ∧ k < fN ci ∧ Cond.fieldLink own n (fR ci) (fT ci k).2.1 (fT ci k).2.2.1 ∈ gtbl) ∧
  (∀ n a, P.2.1 n = some a → okI a ∧ Cond.constant own n (Int32.ofInt a) ∈ gtbl) ∧
  (∀ n a, P.2.2.1 n = some a → okL a ∧ Cond.constantLong own n (Int64.ofInt a) ∈ gtbl) ∧
  (∀ n ci, P.2.2.2 n = some ci → ci < 12 ∧ Cond.classLink own n (fR ci) ∈ gtbl ∧ Cond.instantiable (fR ci) (fN ci) ∈ gtbl ∧ Cond.initialized (fR ci) ∈ gtbl)
abbrev OiOk (own : String) (R : Room) (oi : Nat → Bool) : Prop := ∀ n, oi n = true → (Cond.methodLink own n objectInit ∈ gtbl ∧ Cond.instanceMethod objectInit ∈ gtbl ∧ Cond.code objectInit ⟨#[0xb1]⟩ 1 none ∈ gtbl) ∧ 1 ≤ R.frames ∧ 20 ≤ R.locals
theorem aw0 : Cond.arrayClass .int ∈ gtbl := List.mem_filter.mpr ⟨List.mem_of_getElem? (i := 141) (by decide +kernel), rfl⟩
theorem aw1 : Cond.arrayClass .long ∈ gtbl := List.mem_filter.mpr ⟨List.mem_of_getElem? (i := 359) (by decide +kernel), rfl⟩
theorem aw2 : Cond.arrayClass .boolean ∈ gtbl := List.mem_filter.mpr ⟨List.mem_of_getElem? (i := 213) (by decide +kernel), rfl⟩
theorem lenK (o : Nat) : (fK o).2 ≤ 100000 := by
  cases o with
  | zero => decide
  | succ k =>
    show (fKl.getD k (99, 0)).2 ≤ 100000
    rw [List.getD_eq_getElem?_getD]
    cases h : fKl[k]? with
    | none => exact Nat.zero_le _
    | some q =>
      have hq := List.mem_of_getElem? h
      have hall : ∀ q ∈ fKl, q.2 ≤ 100000 := by decide +kernel
      exact hall q hq
def isRet (i : Instr) (rt : Nat) (r : Option PV) : Prop := match i, r with
  | .ireturn, some (.inl a) => rt = 0 ∨ rt = 1 ∧ (a = 0 ∨ a = 1)
  | .lreturn, some (.inr (.inl _)) => rt = 2
  | .areturn, some (.inr (.inr _)) => rt = 3
  | .return_, none => rt = 4
  | _, _ => False
/-- what the method's end wants -/
def RET (p : Program) (l : Launch) (e : Env) (R : Room) (s : State) (m : MethodId) (args : Array Value) (below : List Frame) (meth : Method) (c : Code) (D : va_G) (cA : Nat → ClassId) (cc : ByteArray) (A : Nat → Prop) (n0 : Nat) (adr0 : Nat → Nat) (lim : Nat) (Qm : State → Prop) (rt : Nat) (Q : Option PV → St → Prop) : Prop :=
  ∀ (i : Instr) (r : Option PV) (pc : Nat) (σ : St) (adr : Nat → Nat) (H : Heap) (locs : List Jvm.Loc) (ls : Array Slot) (cells slots : Nat), decode cc pc = .ok (i, 1) → isRet i rt r → Q r σ → WF σ → (∀ v ∈ r.toList, okV σ.1 v) → va_P D vwCl (wld cA adr σ) H → va_D A (wld cA adr σ) → va_S A s.heap H locs → n0 ≤ σ.1 → σ.1 ≤ lim → (∀ o, o ≤ n0 → adr o = adr0 o) → cells + n0 = σ.1 → slots + SL n0 = SL σ.1 → W p l e R s m args below meth c H locs cells slots Qm (F0 m pc ls (r.toList.map (rl adr)))
section STEP
variable {p : Program} {l : Launch} {e : Env} {R : Room} {s : State} {m : MethodId} {args : Array Value} {below : List Frame} {meth : Method} {c : Code} {D : va_G} {cA : Nat → ClassId} {nL : Nat} {A : Nat → Prop} {n0 : Nat} {adr0 : Nat → Nat} {lim : Nat} {Qm : State → Prop} {cc : ByteArray} {own : String}
variable {pc nx : Nat} {tg : List Nat} {L : LoT} {σ : St} {P : Pool} {cl : Cl} {oi : Nat → Bool} {rt ini : Nat} {scr : Scr} {Q : Option PV → St → Prop}
theorem gw_end (hR : RET p l e R s m args below meth c D cA cc A n0 adr0 lim Qm rt Q) {i : Instr} {r : Option PV} (hd : decode cc pc = .ok (i, 1)) (hi : isRet i rt r) (hq : Q r σ) : GW p l e R s m args below meth c D cA nL A n0 adr0 lim Qm pc L r.toList σ := by
  intro adr H locs ls cells slots hwf hst hlo hl hP hD hS hn0 hlm hadr hce hsl
  exact hR i r pc σ adr H locs ls cells slots hd hi hq hwf hst hP hD hS hn0 hlm hadr hce hsl
theorem gw_sub {L' : LoT} {st : List PV} (h : L'.map (fun q => lk L q.1) = L'.map (fun q => some q.2)) (k : GW p l e R s m args below meth c D cA nL A n0 adr0 lim Qm pc L' st σ) : GW p l e R s m args below meth c D cA nL A n0 adr0 lim Qm pc L st σ := by
  intro adr H locs ls cells slots hwf hst hlo hl hP hD hS hn0 hlm hadr hce hsl
  have hm : ∀ q ∈ L', lk L q.1 = some q.2 := fun q hq => (List.map_inj_left.mp h) q hq
  refine k adr H locs ls cells slots hwf hst (fun q hq => hlo _ (lk_mem (hm q hq))) ⟨hl.1, hl.2.1, fun q hq => ?_⟩ hP hD hS hn0 hlm hadr hce hsl
  obtain ⟨q0, h0, rfl⟩ := List.mem_map.mp hq
  exact lk_has hl (hm q0 h0)
set_option maxHeartbeats 4000000 in
theorem gw_step (C : Hr p R s m args c D cA cc own nL A n0 lim) (hp : PoolOk own P) (hcl : ∀ q ∈ cl, CF l D cA own R q) (ho : OiOk own R oi) (hini : ∀ ci, ini = ci + 1 → fR ci = own ∧ meth.name = "<init>") (hscr : ∀ Lx xs, scr = some (Lx, xs) → Lx < 2147483648 ∧ (∀ j, j < Lx → okI (xs j)) ∧ ∃ b, adr0 0 = b ∧ va_X b Lx (fun j => Int32.ofInt (xs j)) s s.heap ∧ b < s.heap.size ∧ ¬ A b) (hR : RET p l e R s m args below meth c D cA cc A n0 adr0 lim Qm rt Q)
    {i : Instr} {st : List PV} (hc : chkE cc nL cl oi (pc, i, nx, tg) = true) (h : stepI P (spAt cl) oi rt ini lim scr Q (GW p l e R s m args below meth c D cA nL A n0 adr0 lim Qm) nx tg i L st σ) : GW p l e R s m args below meth c D cA nL A n0 adr0 lim Qm pc L st σ := by
  cases i
  case iconst n =>
    obtain ⟨hd, hnx, hex⟩ := chk1 hc (fun _ _ _ _ q => by cases q) (fun _ _ q => by cases q)
    subst hnx
    exact gw_iconst C hd (by have := of_decide_eq_true hex; exact ⟨by omega, by omega⟩) h
  case bipush n =>
    obtain ⟨hd, hnx, hex⟩ := chk1 hc (fun _ _ _ _ q => by cases q) (fun _ _ q => by cases q)
    subst hnx
    exact gw_bipush C hd (of_decide_eq_true hex) h
  case sipush n =>
    obtain ⟨hd, hnx, hex⟩ := chk1 hc (fun _ _ _ _ q => by cases q) (fun _ _ q => by cases q)
    subst hnx
    exact gw_sipush C hd (of_decide_eq_true hex) h
  case lconst n =>
    obtain ⟨hd, hnx, hex⟩ := chk1 hc (fun _ _ _ _ q => by cases q) (fun _ _ q => by cases q)
    subst hnx
    unfold stepI at h
    dsimp only at h
    split at h
    · exact gw_lconst C hd h
    · rename_i k hk
      have hk0 : k = 0 := by omega
      subst hk0
      exact gw_lconst C hd h
  case ldc n =>
    obtain ⟨hd, hnx, hex⟩ := chk1 hc (fun _ _ _ _ q => by cases q) (fun _ _ q => by cases q)
    subst hnx
    unfold stepI at h
    dsimp only at h
    split at h
    · rename_i a ha
      exact gw_ldc C hd (hp.2.1 n a ha) h
    · exact h.elim
  case ldc_w n =>
    obtain ⟨hd, hnx, hex⟩ := chk1 hc (fun _ _ _ _ q => by cases q) (fun _ _ q => by cases q)
    subst hnx
    unfold stepI at h
    dsimp only at h
    split at h
    · rename_i a ha
      exact gw_ldc_w C hd (hp.2.1 n a ha) h
    · exact h.elim
  case ldc2_w n =>
    obtain ⟨hd, hnx, hex⟩ := chk1 hc (fun _ _ _ _ q => by cases q) (fun _ _ q => by cases q)
    subst hnx
    unfold stepI at h
    dsimp only at h
    split at h
    · rename_i a ha
      exact gw_ldc2_w C hd (hp.2.2.1 n a ha) h
    · exact h.elim
  case iload j =>
    obtain ⟨hd, hnx, hex⟩ := chk1 hc (fun _ _ _ _ q => by cases q) (fun _ _ q => by cases q)
    subst hnx
    unfold stepI at h
    dsimp only at h
    split at h
    · rename_i a ha
      exact gw_iload C hd ha h
    · exact h.elim
  case istore j =>
    obtain ⟨hd, hnx, hex⟩ := chk1 hc (fun _ _ _ _ q => by cases q) (fun _ _ q => by cases q)
    subst hnx
    rcases st with _ | ⟨a | a | a, r⟩ <;> first | exact (h : False).elim | exact gw_istore C hd (of_decide_eq_true hex) h
  case iload_n j =>
    obtain ⟨hd, hnx, hex⟩ := chk1 hc (fun _ _ _ _ q => by cases q) (fun _ _ q => by cases q)
    subst hnx
    unfold stepI at h
    dsimp only at h
    split at h
    · rename_i a ha
      exact gw_iload_n C hd ha h
    · exact h.elim
  case istore_n j =>
    obtain ⟨hd, hnx, hex⟩ := chk1 hc (fun _ _ _ _ q => by cases q) (fun _ _ q => by cases q)
    subst hnx
    rcases st with _ | ⟨a | a | a, r⟩ <;> first | exact (h : False).elim | exact gw_istore_n C hd (of_decide_eq_true hex) h
  case lload j =>
    obtain ⟨hd, hnx, hex⟩ := chk1 hc (fun _ _ _ _ q => by cases q) (fun _ _ q => by cases q)
    subst hnx
    unfold stepI at h
    dsimp only at h
    split at h
    · rename_i a ha
      exact gw_lload C hd ha h
    · exact h.elim
  case lstore j =>
    obtain ⟨hd, hnx, hex⟩ := chk1 hc (fun _ _ _ _ q => by cases q) (fun _ _ q => by cases q)
    subst hnx
    rcases st with _ | ⟨a | a | a, r⟩ <;> first | exact (h : False).elim | exact gw_lstore C hd (of_decide_eq_true hex) h
  case lload_n j =>
    obtain ⟨hd, hnx, hex⟩ := chk1 hc (fun _ _ _ _ q => by cases q) (fun _ _ q => by cases q)
    subst hnx
    unfold stepI at h
    dsimp only at h
    split at h
    · rename_i a ha
      exact gw_lload_n C hd ha h
    · exact h.elim
  case lstore_n j =>
    obtain ⟨hd, hnx, hex⟩ := chk1 hc (fun _ _ _ _ q => by cases q) (fun _ _ q => by cases q)
    subst hnx
    rcases st with _ | ⟨a | a | a, r⟩ <;> first | exact (h : False).elim | exact gw_lstore_n C hd (of_decide_eq_true hex) h
  case aload j =>
    obtain ⟨hd, hnx, hex⟩ := chk1 hc (fun _ _ _ _ q => by cases q) (fun _ _ q => by cases q)
    subst hnx
    unfold stepI at h
    dsimp only at h
    split at h
    · rename_i a ha
      exact gw_aload C hd ha h
    · exact h.elim
  case astore j =>
    obtain ⟨hd, hnx, hex⟩ := chk1 hc (fun _ _ _ _ q => by cases q) (fun _ _ q => by cases q)
    subst hnx
    rcases st with _ | ⟨a | a | a, r⟩ <;> first | exact (h : False).elim | exact gw_astore C hd (of_decide_eq_true hex) h
  case aload_n j =>
    obtain ⟨hd, hnx, hex⟩ := chk1 hc (fun _ _ _ _ q => by cases q) (fun _ _ q => by cases q)
    subst hnx
    unfold stepI at h
    dsimp only at h
    split at h
    · rename_i a ha
      exact gw_aload_n C hd ha h
    · exact h.elim
  case astore_n j =>
    obtain ⟨hd, hnx, hex⟩ := chk1 hc (fun _ _ _ _ q => by cases q) (fun _ _ q => by cases q)
    subst hnx
    rcases st with _ | ⟨a | a | a, r⟩ <;> first | exact (h : False).elim | exact gw_astore_n C hd (of_decide_eq_true hex) h
  case iinc j n =>
    obtain ⟨hd, hnx, hex⟩ := chk1 hc (fun _ _ _ _ q => by cases q) (fun _ _ q => by cases q)
    subst hnx
    unfold stepI at h
    dsimp only at h
    split at h
    · rename_i a ha
      exact gw_iinc C hd (of_decide_eq_true hex) ha h
    · exact h.elim
  case iadd =>
    obtain ⟨hd, hnx, hex⟩ := chk1 hc (fun _ _ _ _ q => by cases q) (fun _ _ q => by cases q)
    subst hnx
    rcases st with _ | ⟨b | b | b, _ | ⟨a | a | a, r⟩⟩ <;> first | exact (h : False).elim | exact gw_iadd C hd h
  case isub =>
    obtain ⟨hd, hnx, hex⟩ := chk1 hc (fun _ _ _ _ q => by cases q) (fun _ _ q => by cases q)
    subst hnx
    rcases st with _ | ⟨b | b | b, _ | ⟨a | a | a, r⟩⟩ <;> first | exact (h : False).elim | exact gw_isub C hd h
  case imul =>
    obtain ⟨hd, hnx, hex⟩ := chk1 hc (fun _ _ _ _ q => by cases q) (fun _ _ q => by cases q)
    subst hnx
    rcases st with _ | ⟨b | b | b, _ | ⟨a | a | a, r⟩⟩ <;> first | exact (h : False).elim | exact gw_imul C hd h
  case iand =>
    obtain ⟨hd, hnx, hex⟩ := chk1 hc (fun _ _ _ _ q => by cases q) (fun _ _ q => by cases q)
    subst hnx
    rcases st with _ | ⟨b | b | b, _ | ⟨a | a | a, r⟩⟩ <;> first | exact (h : False).elim | exact gw_iand C hd h
  case ior =>
    obtain ⟨hd, hnx, hex⟩ := chk1 hc (fun _ _ _ _ q => by cases q) (fun _ _ q => by cases q)
    subst hnx
    rcases st with _ | ⟨b | b | b, _ | ⟨a | a | a, r⟩⟩ <;> first | exact (h : False).elim | exact gw_ior C hd h
  case ixor =>
    obtain ⟨hd, hnx, hex⟩ := chk1 hc (fun _ _ _ _ q => by cases q) (fun _ _ q => by cases q)
    subst hnx
    rcases st with _ | ⟨b | b | b, _ | ⟨a | a | a, r⟩⟩ <;> first | exact (h : False).elim | exact gw_ixor C hd h
  case ishl =>
    obtain ⟨hd, hnx, hex⟩ := chk1 hc (fun _ _ _ _ q => by cases q) (fun _ _ q => by cases q)
    subst hnx
    rcases st with _ | ⟨b | b | b, _ | ⟨a | a | a, r⟩⟩ <;> first | exact (h : False).elim | exact gw_ishl C hd h
  case ishr =>
    obtain ⟨hd, hnx, hex⟩ := chk1 hc (fun _ _ _ _ q => by cases q) (fun _ _ q => by cases q)
    subst hnx
    rcases st with _ | ⟨b | b | b, _ | ⟨a | a | a, r⟩⟩ <;> first | exact (h : False).elim | exact gw_ishr C hd h
  case iushr =>
    obtain ⟨hd, hnx, hex⟩ := chk1 hc (fun _ _ _ _ q => by cases q) (fun _ _ q => by cases q)
    subst hnx
    rcases st with _ | ⟨b | b | b, _ | ⟨a | a | a, r⟩⟩ <;> first | exact (h : False).elim | exact gw_iushr C hd h
  case ladd =>
    obtain ⟨hd, hnx, hex⟩ := chk1 hc (fun _ _ _ _ q => by cases q) (fun _ _ q => by cases q)
    subst hnx
    rcases st with _ | ⟨b | b | b, _ | ⟨a | a | a, r⟩⟩ <;> first | exact (h : False).elim | exact gw_ladd C hd h
  case lsub =>
    obtain ⟨hd, hnx, hex⟩ := chk1 hc (fun _ _ _ _ q => by cases q) (fun _ _ q => by cases q)
    subst hnx
    rcases st with _ | ⟨b | b | b, _ | ⟨a | a | a, r⟩⟩ <;> first | exact (h : False).elim | exact gw_lsub C hd h
  case lmul =>
    obtain ⟨hd, hnx, hex⟩ := chk1 hc (fun _ _ _ _ q => by cases q) (fun _ _ q => by cases q)
    subst hnx
    rcases st with _ | ⟨b | b | b, _ | ⟨a | a | a, r⟩⟩ <;> first | exact (h : False).elim | exact gw_lmul C hd h
  case land =>
    obtain ⟨hd, hnx, hex⟩ := chk1 hc (fun _ _ _ _ q => by cases q) (fun _ _ q => by cases q)
    subst hnx
    rcases st with _ | ⟨b | b | b, _ | ⟨a | a | a, r⟩⟩ <;> first | exact (h : False).elim | exact gw_land C hd h
  case lor =>
    obtain ⟨hd, hnx, hex⟩ := chk1 hc (fun _ _ _ _ q => by cases q) (fun _ _ q => by cases q)
    subst hnx
    rcases st with _ | ⟨b | b | b, _ | ⟨a | a | a, r⟩⟩ <;> first | exact (h : False).elim | exact gw_lor C hd h
  case lxor =>
    obtain ⟨hd, hnx, hex⟩ := chk1 hc (fun _ _ _ _ q => by cases q) (fun _ _ q => by cases q)
    subst hnx
    rcases st with _ | ⟨b | b | b, _ | ⟨a | a | a, r⟩⟩ <;> first | exact (h : False).elim | exact gw_lxor C hd h
  case lshl =>
    obtain ⟨hd, hnx, hex⟩ := chk1 hc (fun _ _ _ _ q => by cases q) (fun _ _ q => by cases q)
    subst hnx
    rcases st with _ | ⟨b | b | b, _ | ⟨a | a | a, r⟩⟩ <;> first | exact (h : False).elim | exact gw_lshl C hd h
  case lshr =>
    obtain ⟨hd, hnx, hex⟩ := chk1 hc (fun _ _ _ _ q => by cases q) (fun _ _ q => by cases q)
    subst hnx
    rcases st with _ | ⟨b | b | b, _ | ⟨a | a | a, r⟩⟩ <;> first | exact (h : False).elim | exact gw_lshr C hd h
  case lushr =>
    obtain ⟨hd, hnx, hex⟩ := chk1 hc (fun _ _ _ _ q => by cases q) (fun _ _ q => by cases q)
    subst hnx
    rcases st with _ | ⟨b | b | b, _ | ⟨a | a | a, r⟩⟩ <;> first | exact (h : False).elim | exact gw_lushr C hd h
  case lcmp =>
    obtain ⟨hd, hnx, hex⟩ := chk1 hc (fun _ _ _ _ q => by cases q) (fun _ _ q => by cases q)
    subst hnx
    rcases st with _ | ⟨b | b | b, _ | ⟨a | a | a, r⟩⟩ <;> first | exact (h : False).elim | exact gw_lcmp C hd h
  case idiv =>
    obtain ⟨hd, hnx, hex⟩ := chk1 hc (fun _ _ _ _ q => by cases q) (fun _ _ q => by cases q)
    subst hnx
    rcases st with _ | ⟨b | b | b, _ | ⟨a | a | a, r⟩⟩ <;> first | exact (h : False).elim | exact gw_idiv C hd h.1 h.2
  case irem =>
    obtain ⟨hd, hnx, hex⟩ := chk1 hc (fun _ _ _ _ q => by cases q) (fun _ _ q => by cases q)
    subst hnx
    rcases st with _ | ⟨b | b | b, _ | ⟨a | a | a, r⟩⟩ <;> first | exact (h : False).elim | exact gw_irem C hd h.1 h.2
  case ldiv =>
    obtain ⟨hd, hnx, hex⟩ := chk1 hc (fun _ _ _ _ q => by cases q) (fun _ _ q => by cases q)
    subst hnx
    rcases st with _ | ⟨b | b | b, _ | ⟨a | a | a, r⟩⟩ <;> first | exact (h : False).elim | exact gw_ldiv C hd h.1 h.2
  case ineg =>
    obtain ⟨hd, hnx, hex⟩ := chk1 hc (fun _ _ _ _ q => by cases q) (fun _ _ q => by cases q)
    subst hnx
    rcases st with _ | ⟨a | a | a, r⟩ <;> first | exact (h : False).elim | exact gw_ineg C hd h
  case lneg =>
    obtain ⟨hd, hnx, hex⟩ := chk1 hc (fun _ _ _ _ q => by cases q) (fun _ _ q => by cases q)
    subst hnx
    rcases st with _ | ⟨a | a | a, r⟩ <;> first | exact (h : False).elim | exact gw_lneg C hd h
  case i2l =>
    obtain ⟨hd, hnx, hex⟩ := chk1 hc (fun _ _ _ _ q => by cases q) (fun _ _ q => by cases q)
    subst hnx
    rcases st with _ | ⟨a | a | a, r⟩ <;> first | exact (h : False).elim | exact gw_i2l C hd h
  case l2i =>
    obtain ⟨hd, hnx, hex⟩ := chk1 hc (fun _ _ _ _ q => by cases q) (fun _ _ q => by cases q)
    subst hnx
    rcases st with _ | ⟨a | a | a, r⟩ <;> first | exact (h : False).elim | exact gw_l2i C hd h
  case dup =>
    obtain ⟨hd, hnx, hex⟩ := chk1 hc (fun _ _ _ _ q => by cases q) (fun _ _ q => by cases q)
    subst hnx
    rcases st with _ | ⟨a | a | a, r⟩ <;> first | exact (h : False).elim | exact gw_dup_i C hd h | exact gw_dup_a C hd h
  case dup2 =>
    obtain ⟨hd, hnx, hex⟩ := chk1 hc (fun _ _ _ _ q => by cases q) (fun _ _ q => by cases q)
    subst hnx
    rcases st with _ | ⟨b | b | b, _ | ⟨a | a | a, r⟩⟩ <;> first | exact (h : False).elim | exact gw_dup2_i C hd h | exact gw_dup2_a C hd h
  case pop =>
    obtain ⟨hd, hnx, hex⟩ := chk1 hc (fun _ _ _ _ q => by cases q) (fun _ _ q => by cases q)
    subst hnx
    rcases st with _ | ⟨a | a | a, r⟩ <;> first | exact (h : False).elim | exact gw_pop_i C hd h | exact gw_pop_a C hd h
  case pop2 =>
    obtain ⟨hd, hnx, hex⟩ := chk1 hc (fun _ _ _ _ q => by cases q) (fun _ _ q => by cases q)
    subst hnx
    rcases st with _ | ⟨a | a | a, r⟩ <;> first | exact (h : False).elim | exact gw_pop2 C hd h
  case goto o =>
    obtain ⟨hd, hnx, hex⟩ := chk1 hc (fun _ _ _ _ q => by cases q) (fun _ _ q => by cases q)
    subst hnx
    rcases tg with _ | ⟨t, _ | ⟨t2, tg⟩⟩ <;> first | exact (h : False).elim | exact gw_goto C hd (jmp1 hex) h
  case ifCond cd o =>
    obtain ⟨hd, hnx, hex⟩ := chk1 hc (fun _ _ _ _ q => by cases q) (fun _ _ q => by cases q)
    subst hnx
    rcases tg with _ | ⟨t, _ | ⟨t2, tg⟩⟩
    · exact (h : False).elim
    · rcases st with _ | ⟨a | a | a, r⟩ <;> first | exact (h : False).elim | (cases cd <;> first | exact gw_if_eq C hd (jmp1 hex) h.1 h.2 | exact gw_if_ne C hd (jmp1 hex) h.1 h.2 | exact gw_if_lt C hd (jmp1 hex) h.1 h.2 | exact gw_if_ge C hd (jmp1 hex) h.1 h.2 | exact gw_if_gt C hd (jmp1 hex) h.1 h.2 | exact gw_if_le C hd (jmp1 hex) h.1 h.2)
    · exact (h : False).elim
  case if_icmp cd o =>
    obtain ⟨hd, hnx, hex⟩ := chk1 hc (fun _ _ _ _ q => by cases q) (fun _ _ q => by cases q)
    subst hnx
    rcases tg with _ | ⟨t, _ | ⟨t2, tg⟩⟩
    · exact (h : False).elim
    · rcases st with _ | ⟨b | b | b, _ | ⟨a | a | a, r⟩⟩ <;> first | exact (h : False).elim | (cases cd <;> first | exact gw_icmp_eq C hd (jmp1 hex) h.1 h.2 | exact gw_icmp_ne C hd (jmp1 hex) h.1 h.2 | exact gw_icmp_lt C hd (jmp1 hex) h.1 h.2 | exact gw_icmp_ge C hd (jmp1 hex) h.1 h.2 | exact gw_icmp_gt C hd (jmp1 hex) h.1 h.2 | exact gw_icmp_le C hd (jmp1 hex) h.1 h.2)
    · exact (h : False).elim
  case tableswitch d lo hi offs =>
    simp only [chkE, Bool.and_eq_true, decide_eq_true_eq] at hc
    obtain ⟨hd, hj, hh⟩ := hc
    rcases tg with _ | ⟨t, tg⟩
    · exact (h : False).elim
    rcases st with _ | ⟨a | a | a, r⟩
    · exact (h : False).elim
    rotate_left
    · exact (h : False).elim
    · exact (h : False).elim
    obtain ⟨h1, h2⟩ := h
    have hj := of_decide_eq_true hj
    simp only [List.map_cons, List.cons.injEq] at hj
    intro adr H locs ls cells slots hwf hst hlo hl hP hD hS hn0 hlm hadr hce hsl
    obtain ⟨hx, hb, hml, hown, hts, hK, hN, hA, hlc, hls⟩ := C
    have ha : okI a := (tc hst).1
    by_cases hio : a < lo ∨ hi < a
    · exact lv_tableOut hx hb hd (by rw [i32_t ha]; exact hio) hj.1 (h2 hio adr H locs ls cells slots hwf (tc hst).2 hlo hl hP hD hS hn0 hlm hadr hce hsl)
    · have e1 : ¬ a < lo := fun q => hio (Or.inl q)
      have e2 : ¬ hi < a := fun q => hio (Or.inr q)
      have hlt : (a - lo).toNat < offs.size := by omega
      have hl2 : (offs.toList.map (fun o => (pc : Int) + o)).length = (tg.map Int.ofNat).length := by rw [hj.2]
      simp only [List.length_map, Array.length_toList] at hl2
      have ht := List.getElem?_eq_getElem (l := tg) (i := (a - lo).toNat) (by omega)
      have hoo := Array.getElem?_eq_getElem (xs := offs) hlt
      have he : (pc : Int) + offs[(a - lo).toNat] = (tg[(a - lo).toNat]'(by omega) : Nat) := by
        have hc2 := congrArg (fun q => q[(a - lo).toNat]?) hj.2
        simp only [List.getElem?_map, ht, Option.map_some, Array.getElem?_toList, hoo] at hc2
        exact Option.some.inj hc2
      exact lv_tableIn hx hb hd (by rw [i32_t ha]; exact e1) (by rw [i32_t ha]; exact e2) (by rw [i32_t ha]; exact hoo) he (swT_get tg lo a h1 (a - lo).toNat _ ht (by omega) adr H locs ls cells slots hwf (tc hst).2 hlo hl hP hD hS hn0 hlm hadr hce hsl)
  case lookupswitch d ps =>
    simp only [chkE, Bool.and_eq_true, decide_eq_true_eq] at hc
    obtain ⟨hd, hj, hh⟩ := hc
    rcases tg with _ | ⟨t, tg⟩
    · exact (h : False).elim
    rcases st with _ | ⟨a | a | a, r⟩
    · exact (h : False).elim
    rotate_left
    · exact (h : False).elim
    · exact (h : False).elim
    have hj := of_decide_eq_true hj
    simp only [List.map_cons, List.cons.injEq, List.map_map] at hj
    intro adr H locs ls cells slots hwf hst hlo hl hP hD hS hn0 hlm hadr hce hsl
    obtain ⟨hx, hb, hml, hown, hts, hK, hN, hA, hlc, hls⟩ := C
    have ha : okI a := (tc hst).1
    obtain ⟨t2, e1, e2⟩ := sw_off ha ps.toList tg pc (fun t => GW p l e R s m args below meth c D cA nL A n0 adr0 lim Qm t L r σ) d t hj.1 hj.2 h
    exact lv_lookup hx hb hd hh (by rw [i32_t ha]) e1 (e2 adr H locs ls cells slots hwf (tc hst).2 hlo hl hP hD hS hn0 hlm hadr hce hsl)
  case getfield n =>
    obtain ⟨hd, hnx, hex⟩ := chk1 hc (fun _ _ _ _ q => by cases q) (fun _ _ q => by cases q)
    subst hnx
    unfold stepI at h
    dsimp only at h
    split at h
    · rename_i o r ci k hq
      split at h
      · rename_i hb
        have h1 := Nat.eq_of_beq_eq_true hb
        split at h
        · rename_i hk
          split at h
          · exact h.elim
          · rename_i q hq2
            exact gw_get_r C hd (hp.1 n ci k hq) h1 hk (by rw [hq2]; exact Nat.succ_ne_zero q) (by rw [hq2]; exact h)
        · rename_i hk
          exact gw_get_i C hd (hp.1 n ci k hq) h1 hk h
      · exact h.elim
    · exact h.elim
  case putfield n =>
    obtain ⟨hd, hnx, hex⟩ := chk1 hc (fun _ _ _ _ q => by cases q) (fun _ _ q => by cases q)
    subst hnx
    unfold stepI at h
    dsimp only at h
    split at h
    · rename_i x o r ci k hq
      split at h
      · rename_i hb
        simp only [Bool.and_eq_true, Bool.or_eq_true] at hb
        obtain ⟨hb, hk, hf⟩ := hb
        have h1 := Nat.eq_of_beq_eq_true hb
        split at h
        · exact h.elim
        rename_i q
        cases hff : ffin ci k with
        | true =>
          rw [hff] at hf
          have he := Nat.eq_of_beq_eq_true (hf.resolve_left (by decide))
          exact gw_putF_r C hd (hp.1 n ci k hq) h1 hk hff (hini ci he) (Nat.succ_ne_zero q) h
        | false => exact gw_put_r C hd (hp.1 n ci k hq) h1 hk hff (Nat.succ_ne_zero q) h
      · exact h.elim
    · rename_i a o r ci k hq
      split at h
      · rename_i hb
        simp only [Bool.and_eq_true, Bool.or_eq_true, Bool.not_eq_true'] at hb
        obtain ⟨hb, hk, hf⟩ := hb
        have h1 := Nat.eq_of_beq_eq_true hb
        have h2 : (bif fkB ci k then a = 0 ∨ a = 1 else True) ∧ GW p l e R s m args below meth c D cA nL A n0 adr0 lim Qm (pc + ilen (Instr.putfield n)) L r (σ.1, upZ σ.2.1 o k a, σ.2.2) := by
          split at h
          · rename_i hbb
            rw [hbb]
            exact h
          · rename_i hbb
            rw [hbb]
            exact ⟨trivial, h⟩
        cases hff : ffin ci k with
        | true =>
          rw [hff] at hf
          have he := Nat.eq_of_beq_eq_true (hf.resolve_left (by decide))
          exact gw_putF_i C hd (hp.1 n ci k hq) h1 hk hff (hini ci he) h2.1 h2.2
        | false => exact gw_put_i C hd (hp.1 n ci k hq) h1 hk hff h2.1 h2.2
      · exact h.elim
    · exact h.elim
  case laload =>
    obtain ⟨hd, hnx, hex⟩ := chk1 hc (fun _ _ _ _ q => by cases q) (fun _ _ q => by cases q)
    subst hnx
    rcases st with _ | ⟨j | j | j, _ | ⟨o | o | o, r⟩⟩ <;> first | exact (h : False).elim | skip
    unfold stepI at h
    dsimp only at h
    split at h
    · rename_i m hm
      exact gw_lald C hd (by rw [hm]) h.1.1 (by rw [hm]; exact h.1.2) h.2
    · exact h.elim
  case baload =>
    obtain ⟨hd, hnx, hex⟩ := chk1 hc (fun _ _ _ _ q => by cases q) (fun _ _ q => by cases q)
    subst hnx
    rcases st with _ | ⟨j | j | j, _ | ⟨o | o | o, r⟩⟩ <;> first | exact (h : False).elim | skip
    unfold stepI at h
    dsimp only at h
    split at h
    · rename_i m hm
      exact gw_zald C hd (by rw [hm]) h.1.1 (by rw [hm]; exact h.1.2) h.2
    · exact h.elim
  case iaload =>
    obtain ⟨hd, hnx, hex⟩ := chk1 hc (fun _ _ _ _ q => by cases q) (fun _ _ q => by cases q)
    subst hnx
    rcases st with _ | ⟨j | j | j, _ | ⟨o | o | o, r⟩⟩ <;> first | exact (h : False).elim | skip
    unfold stepI at h
    dsimp only at h
    split at h
    · split at h
      · rename_i m hm
        exact gw_iald C hd (by rw [hm]) h.1.1 (by rw [hm]; exact h.1.2) h.2
      · exact h.elim
    · rename_i Lx xs
      obtain ⟨rfl, h0, h1, h2⟩ := h
      obtain ⟨hLx, hxs, b, hb0, hX, hbl, hbA⟩ := hscr Lx xs rfl
      intro adr H locs ls cells slots hwf hst hlo hl hP hD hS hn0 hlm hadr hce hsl
      obtain ⟨hx, hb, hml, hown, hts, hK, hN, hA, hlc, hls⟩ := C
      have hj : okI j := (tc hst).1
      have hab : adr 0 = b := (hadr 0 (Nat.zero_le _)).trans hb0
      have k := h2 adr H locs ls cells slots hwf (ct (show okI (xs j.toNat) from hxs _ (by omega)) (tc (tc hst).2).2) hlo hl hP hD hS hn0 hlm hadr hce hsl
      show W p l e R s m args below meth c H locs cells slots Qm (F0 m pc ls (.int (Int32.ofInt j) :: .ref (adr 0) :: r.map (rl adr)))
      rw [hab]
      refine va_sld hx hb hX hbl hbA hS (vin hj h0 h1) hd ?_
      rw [nclamp hj]
      exact k
  case arraylength =>
    obtain ⟨hd, hnx, hex⟩ := chk1 hc (fun _ _ _ _ q => by cases q) (fun _ _ q => by cases q)
    subst hnx
    rcases st with _ | ⟨o | o | o, r⟩ <;> first | exact (h : False).elim | skip
    unfold stepI at h
    dsimp only at h
    split at h
    · split at h
      rotate_left
      · exact h.elim
      rename_i hb
      have h1 := Nat.le_of_ble_eq_true hb
      have h2 := h
      rcases (show (fK o).1 = 0 ∨ (fK o).1 = 1 ∨ (fK o).1 = 2 ∨ (fK o).1 = 3 by omega) with q | q | q | q
      · exact gw_alen0 C hd q (lenK o) h2
      · exact gw_alen1 C hd q (lenK o) h2
      · exact gw_alen2 C hd q (lenK o) h2
      · exact gw_alen3 C hd q (lenK o) h2
    · rename_i Lx xs
      obtain ⟨rfl, h2⟩ := h
      obtain ⟨hLx, hxs, b, hb0, hX, hbl, hbA⟩ := hscr Lx xs rfl
      intro adr H locs ls cells slots hwf hst hlo hl hP hD hS hn0 hlm hadr hce hsl
      obtain ⟨hx, hb, hml, hown, hts, hK, hN, hA, hlc, hls⟩ := C
      have hab : adr 0 = b := (hadr 0 (Nat.zero_le _)).trans hb0
      have k := h2 adr H locs ls cells slots hwf (ct (show okI (Lx : Int) from ⟨by omega, by omega⟩) (tc hst).2) hlo hl hP hD hS hn0 hlm hadr hce hsl
      show W p l e R s m args below meth c H locs cells slots Qm (F0 m pc ls (.ref (adr 0) :: r.map (rl adr)))
      rw [hab]
      refine va_slen hx hb hX hbl hbA hS hd ?_
      rw [show Int32.ofNat Lx = Int32.ofInt (Lx : Int) from Int32.ofInt_eq_ofNat.symm]
      exact k
  case aaload =>
    obtain ⟨hd, hnx, hex⟩ := chk1 hc (fun _ _ _ _ q => by cases q) (fun _ _ q => by cases q)
    subst hnx
    rcases st with _ | ⟨j | j | j, _ | ⟨o | o | o, r⟩⟩ <;> first | exact (h : False).elim | skip
    unfold stepI at h
    dsimp only at h
    split at h
    · rename_i m hm
      exact gw_aald C hd (by rw [hm]) h.1.1 (by rw [hm]; exact h.1.2) h.2.1 h.2.2
    · exact h.elim
  case iastore =>
    obtain ⟨hd, hnx, hex⟩ := chk1 hc (fun _ _ _ _ q => by cases q) (fun _ _ q => by cases q)
    subst hnx
    rcases st with _ | ⟨a | a | a, _ | ⟨j | j | j, _ | ⟨o | o | o, r⟩⟩⟩ <;> first | exact (h : False).elim | skip
    unfold stepI at h
    dsimp only at h
    split at h
    · rename_i m hm
      exact gw_iast C hd (by rw [hm]) h.1.1 (by rw [hm]; exact h.1.2) h.2
    · exact h.elim
  case lastore =>
    obtain ⟨hd, hnx, hex⟩ := chk1 hc (fun _ _ _ _ q => by cases q) (fun _ _ q => by cases q)
    subst hnx
    rcases st with _ | ⟨a | a | a, _ | ⟨j | j | j, _ | ⟨o | o | o, r⟩⟩⟩ <;> first | exact (h : False).elim | skip
    unfold stepI at h
    dsimp only at h
    split at h
    · rename_i m hm
      exact gw_last C hd (by rw [hm]) h.1.1 (by rw [hm]; exact h.1.2) h.2
    · exact h.elim
  case bastore =>
    obtain ⟨hd, hnx, hex⟩ := chk1 hc (fun _ _ _ _ q => by cases q) (fun _ _ q => by cases q)
    subst hnx
    rcases st with _ | ⟨a | a | a, _ | ⟨j | j | j, _ | ⟨o | o | o, r⟩⟩⟩ <;> first | exact (h : False).elim | skip
    unfold stepI at h
    dsimp only at h
    split at h
    · rename_i m hm
      exact gw_zast C hd (by rw [hm]) h.1.1 (by rw [hm]; exact h.1.2) h.2.1 h.2.2
    · exact h.elim
  case aastore =>
    obtain ⟨hd, hnx, hex⟩ := chk1 hc (fun _ _ _ _ q => by cases q) (fun _ _ q => by cases q)
    subst hnx
    rcases st with _ | ⟨a | a | a, _ | ⟨j | j | j, _ | ⟨o | o | o, r⟩⟩⟩ <;> first | exact (h : False).elim | skip
    unfold stepI at h
    dsimp only at h
    split at h
    · rename_i m hm
      exact gw_aast C hd (by rw [hm]) h.1.1 (by rw [hm]; exact h.1.2) h.2.1 h.2.2
    · exact h.elim
  case newarray t =>
    obtain ⟨hd, hnx, hex⟩ := chk1 hc (fun _ _ _ _ q => by cases q) (fun _ _ q => by cases q)
    subst hnx
    rcases st with _ | ⟨n | n | n, r⟩
    · exact (h : False).elim
    rotate_left
    · exact (h : False).elim
    · exact (h : False).elim
    obtain ⟨h1, ⟨h2, h3, h4⟩, h5, h6⟩ := h
    cases t <;> first | exact absurd h2 (by decide) | exact gw_newa_int C hd aw0 h1 h3 h4 h5 h6 | exact gw_newa_long C hd aw1 h1 h3 h4 h5 h6 | exact gw_newa_bool C hd aw2 h1 h3 h4 h5 h6
  case anewarray n =>
    obtain ⟨hd, hnx, hex⟩ := chk1 hc (fun _ _ _ _ q => by cases q) (fun _ _ q => by cases q)
    subst hnx
    unfold stepI at h
    dsimp only at h
    split at h
    · rename_i n2 r hq
      obtain ⟨h1, ⟨h3, h4⟩, h5, h6⟩ := h
      exact gw_newq C hd (hp.2.2.2 n 7 hq).2.1 h1 h3 h4 h5 h6
    · exact h.elim
  case new n =>
    obtain ⟨hd, hnx, hex⟩ := chk1 hc (fun _ _ _ _ q => by cases q) (fun _ _ q => by cases q)
    subst hnx
    unfold stepI at h
    dsimp only at h
    split at h
    · rename_i ci hq
      exact gw_new C hd (hp.2.2.2 n ci hq) h.1 h.2.1 h.2.2
    · exact h.elim
  case invokevirtual n =>
    obtain ⟨hd, hnx, hex⟩ := chk1 hc (fun _ _ _ _ q => by cases q) (fun _ _ q => by cases q)
    subst hnx
    exact gw_call C (hcl _ (ck_sp (Nat.eq_of_beq_eq_true hex) (by decide))) (Or.inl ⟨rfl, rfl⟩) hd (fun _ _ => h.1) h.2
  case invokestatic n =>
    obtain ⟨hd, hnx, hex⟩ := chk1 hc (fun _ _ _ _ q => by cases q) (fun _ _ q => by cases q)
    subst hnx
    rcases Bool.or_eq_true _ _ ▸ hex with hk | hk
    · exact gw_call C (hcl _ (ck_sp (Nat.eq_of_beq_eq_true hk) (by decide))) (Or.inr (Or.inl ⟨rfl, rfl⟩)) hd (fun q _ => absurd rfl q) h
    · exact gw_call C (hcl _ (ck_sp (Nat.eq_of_beq_eq_true hk) (by decide))) (Or.inr (Or.inr (Or.inr (Or.inr ⟨rfl, rfl⟩)))) hd (fun _ q => absurd rfl q) h
  case invokespecial n =>
    obtain ⟨hd, hnx, hex⟩ := chk1 hc (fun _ _ _ _ q => by cases q) (fun _ _ q => by cases q)
    subst hnx
    unfold stepI at h
    dsimp only at h
    cases hoi : oi n with
    | true =>
      rw [hoi] at h
      rcases st with _ | ⟨a | a | a, r⟩ <;> first | exact (h : False).elim | exact gw_objinit C hd (ho n hoi).1 (ho n hoi).2 (Nat.le_of_ble_eq_true h.1) h.2
    | false =>
      rw [hoi] at h
      have hex2 : (Nat.beq (ckK cl n) 2 || Nat.beq (ckK cl n) 3) = true := by
        have hex3 : (oi n || (Nat.beq (ckK cl n) 2 || Nat.beq (ckK cl n) 3)) = true := hex
        rw [hoi] at hex3
        exact hex3
      rcases (Bool.or_eq_true _ _).mp hex2 with hk | hk
      · exact gw_call C (hcl _ (ck_sp (Nat.eq_of_beq_eq_true hk) (by decide))) (Or.inr (Or.inr (Or.inl ⟨rfl, rfl⟩))) hd (fun _ _ => h.1) h.2
      · exact gw_call C (hcl _ (ck_sp (Nat.eq_of_beq_eq_true hk) (by decide))) (Or.inr (Or.inr (Or.inr (Or.inl ⟨rfl, rfl⟩)))) hd (fun _ _ => h.1) h.2
  case ireturn =>
    obtain ⟨hd, hnx, hex⟩ := chk1 hc (fun _ _ _ _ q => by cases q) (fun _ _ q => by cases q)
    subst hnx
    rcases st with _ | ⟨a | a | a, _ | ⟨b, r⟩⟩ <;> first | exact (h : False).elim | skip
    unfold stepI at h
    dsimp only at h
    split at h
    · exact gw_end hR hd (i := .ireturn) (r := some (vi a)) (Or.inl rfl) h
    · exact gw_end hR hd (i := .ireturn) (r := some (vi a)) (Or.inr ⟨rfl, h.1⟩) h.2
    · exact h.elim
  case lreturn =>
    obtain ⟨hd, hnx, hex⟩ := chk1 hc (fun _ _ _ _ q => by cases q) (fun _ _ q => by cases q)
    subst hnx
    rcases st with _ | ⟨a | a | a, _ | ⟨b, r⟩⟩ <;> first | exact (h : False).elim | exact gw_end hR hd (i := .lreturn) (r := some (vl a)) h.1 h.2
  case areturn =>
    obtain ⟨hd, hnx, hex⟩ := chk1 hc (fun _ _ _ _ q => by cases q) (fun _ _ q => by cases q)
    subst hnx
    rcases st with _ | ⟨a | a | a, _ | ⟨b, r⟩⟩ <;> first | exact (h : False).elim | exact gw_end hR hd (i := .areturn) (r := some (vr a)) h.1 h.2
  case return_ =>
    obtain ⟨hd, hnx, hex⟩ := chk1 hc (fun _ _ _ _ q => by cases q) (fun _ _ q => by cases q)
    subst hnx
    rcases st with _ | ⟨a, r⟩ <;> first | exact (h : False).elim | exact gw_end hR hd (i := .return_) (r := none) h.1 h.2
  all_goals exact (h : False).elim
end STEP
