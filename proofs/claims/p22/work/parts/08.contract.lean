/-! ===== a method's contract out of its run in the pure machine ===== -/
def pargs (i : Nat) (as : List PV) : LoT := match as with
  | [] => []
  | v :: t => (i, v) :: pargs (bif Nat.beq (pcat v) 2 then i + 2 else i + 1) t
theorem pargs_map (adr : Nat → Nat) : ∀ (as : List PV) (i : Nat), lv_args i (as.map (rl adr)) = (pargs i as).map fun q => (q.1, rl adr q.2)
  | [], _ => rfl
  | v :: t, i => by
    rw [List.map_cons, lv_args, pargs, List.map_cons, rl_cat]
    by_cases hc : pcat v = 2
    · rw [if_pos hc, hc, pargs_map adr t]; rfl
    · rw [if_neg hc, show Nat.beq (pcat v) 2 = false from by cases h : Nat.beq (pcat v) 2 with | true => exact absurd (Nat.eq_of_beq_eq_true h) hc | false => rfl, pargs_map adr t]; rfl
theorem pargs_ok {n : Nat} : ∀ (as : List PV) (i : Nat), (∀ v ∈ as, okV n v) → ∀ q ∈ pargs i as, okV n q.2
  | [], _, _, q, h => by cases h
  | v :: t, i, hv, q, h => by
    rcases List.mem_cons.mp h with rfl | h
    · exact hv v List.mem_cons_self
    · exact pargs_ok t _ (fun w hw => hv w (List.mem_cons_of_mem _ hw)) q h
theorem lg_psum (adr : Nat → Nat) (as : List PV) : (lg_sl (as.map (rl adr))).length = psum as := by
  induction as with
  | nil => rfl
  | cons v t ih =>
    rw [List.map_cons, show lg_sl (rl adr v :: t.map (rl adr)) = (if (rl adr v).category = 2 then [.val (rl adr v), .second] else [.val (rl adr v)]) ++ lg_sl (t.map (rl adr)) from by simp [lg_sl], List.length_append, ih, rl_cat, psum]
    rcases v with a | a | a <;> rfl
abbrev retK (ret : Option FieldType) : Nat := match ret with
  | some .int => 0
  | some .boolean => 1
  | some .long => 2
  | some (.object _) => 3
  | some (.array _) => 3
  | none => 4
  | _ => 9
theorem met_ofF {l : Launch} {y : MethodName} {ws ws' : List Cond} {rm : Room} {Pc : Array Value → State → Prop} {Qc : Array Value → State → Outcome → State → Prop} {mc ms : Nat} {free : Addr → Prop} {cc : ByteArray} {maxL : Nat} {ret : Option FieldType}
    (hy : plainFor y = true) (hw : ws = Cond.code y cc maxL ret :: ws')
    (body : ∀ p e s m args below meth c s₁, BodyLoose p l y (headSpec ws rm) cc maxL ret e s m args below meth c s₁ → c.maxLocals = maxL → Pc args s →
      W p l e (headSpec ws rm).room s m args below meth c s.heap [] 0 0 (MQ below Qc args s mc ms free) (entryFrame m args maxL)) : Met l y ws rm Pc Qc mc ms free := by
  refine MetFree.of_bodySF (code := cc) (maxLocals := maxL) (ret := ret) hy (fun args s m h hn => ?_) (fun p e s m args below meth c s₁ B hml hP _ => ?_)
  · obtain ⟨meth, c, h1, h2, h3, h4, h5, h6, -, -⟩ := Cond.code_spec hn (atoms_spec (ws := ws) h _ (by rw [hw]; exact List.mem_cons_self))
    exact ⟨meth, c, h1, h2, h3, h4, h5, h6⟩
  · obtain ⟨t, a1, o, b1, b2, b3⟩ := body p e s m args below meth c s₁ B hml hP s₁ (by rw [B.state]; rfl) (Stand.of_body B)
    exact ⟨t, o, a1, b1, b2, b3⟩
theorem clo_gw {p : Program} {l : Launch} {e : Env} {R : Room} {s : State} {m : MethodId} {args : Array Value} {below : List Frame} {meth : Method} {c : Code} {D : va_G} {cA : Nat → ClassId} {nL : Nat} {A : Nat → Prop} {n0 : Nat} {adr0 : Nat → Nat} {lim : Nat} {Qm : State → Prop} {cc : ByteArray} {own : String} {P : Pool} {cl : Cl} {oi : Nat → Bool} {rt ini : Nat} {scr : Scr} {Q : Option PV → St → Prop} {tb : Tab}
    (C : Hr p R s m args c D cA cc own nL A n0 lim) (hchk : tb.all (chkE cc nL cl oi) = true) (hp : PoolOk own P) (hcl : ∀ q ∈ cl, CF l D cA own R q) (ho : OiOk own R oi) (hini : ∀ ci, ini = ci + 1 → fR ci = own ∧ meth.name = "<init>") (hscr : ∀ Lx xs, scr = some (Lx, xs) → Lx < 2147483648 ∧ (∀ j, j < Lx → okI (xs j)) ∧ ∃ b, adr0 0 = b ∧ va_X b Lx (fun j => Int32.ofInt (xs j)) s s.heap ∧ b < s.heap.size ∧ ¬ A b) (hR : RET p l e R s m args below meth c D cA cc A n0 adr0 lim Qm rt Q) :
    Clo (tb, P, cl, oi, rt, ini) lim scr Q (GW p l e R s m args below meth c D cA nL A n0 adr0 lim Qm) := by
  refine ⟨fun pc L st σ' h => ?_, fun pc L L' st σ' h k => gw_sub h k⟩
  unfold stepM at h
  split at h
  · rename_i i nx tg he
    exact gw_step C hp hcl ho hini hscr hR (List.all_eq_true.mp hchk _ (tab_mem he)) h
  · exact h.elim
theorem pm_of {l : Launch} {D : va_G} {cA : Nat → ClassId} {y : MethodName} {cc : ByteArray} {maxL : Nat} {ret : Option FieldType} {fr lo : Nat} {sp : Sp} {own : String} {tb : Tab} {P : Pool} {cl : Cl} {oi : Nat → Bool} {ini : Nat}
    (hy : plainFor y = true) (hown : y.cls = own) (hchk : tb.all (chkE cc maxL cl oi) = true) (hp : PoolOk own P) (hret : retK ret ≠ 9) (hini : ∀ ci, ini = ci + 1 → fR ci = own ∧ y.name = "<init>") (hoi : ∀ n, oi n = true → (Cond.methodLink own n objectInit ∈ gtbl ∧ Cond.instanceMethod objectInit ∈ gtbl ∧ Cond.code objectInit ⟨#[0xb1]⟩ 1 none ∈ gtbl) ∧ 1 ≤ fr ∧ 20 ≤ lo)
    (hcl : ∀ (R : Room), R.frames = fr → R.locals = lo → ∀ q ∈ cl, CF l D cA own R q)
    (hrun : ∀ (as : List PV) (σ : St), WF σ → (∀ v ∈ as, okV σ.1 v) → sp.2.2.2.1 as σ → psum as ≤ maxL ∧ ∀ G : GT, Clo (tb, P, cl, oi, retK ret, ini) (σ.1 + sp.2.2.1) none (fun r σ' => sp.2.2.2.2 as σ r σ' ∧ σ'.1 = σ.1 + sp.2.2.1) G → G 0 (pargs 0 as) [] σ) :
    PM l D cA y cc maxL ret fr lo sp := by
  intro adr σ as sz hwf hao hpre
  obtain ⟨hpl, hG⟩ := hrun as σ hwf hao hpre
  refine met_ofF (cc := cc) (maxL := maxL) (ret := ret) hy rfl ?_
  intro p e s m args below meth c s₁ B hml hv
  obtain ⟨rfl, hsz, hP, hK, hN, hD0⟩ := hv
  have hx := B.exec
  have hb := B.bytes
  have hr := B.returns
  have hts0 := atoms_spec (ws := .code y cc maxL ret :: gtbl) B.pre
  have hts : ∀ w ∈ gtbl, w.before (as.map (rl adr)).toArray s = true := fun w hw => hts0 w (List.mem_cons_of_mem _ hw)
  have hown2 : s.vm.findClass own = some m.cls := hown ▸ findClass_of_methodNamed B.named
  have hlocks := B.notSynchronized
  subst hsz
  have hD := hD0.self (sz := s.heap.size)
  have hlg : (lg_sl (as.map (rl adr))).length ≤ maxL := by rw [lg_psum]; exact hpl
  have hl := lv_entry (as.map (rl adr)) (n := maxL) hlg
  rw [lg_entry_eq]
  rw [pargs_map] at hl
  have hm1 := SL_mono (Nat.le_add_right σ.1 sp.2.2.1)
  have C : Hr p (headSpec (.code y cc maxL ret :: gtbl) { frames := fr, cells := sp.2.2.1, slots := SL (σ.1 + sp.2.2.1) - SL σ.1, locals := lo }).room s m (as.map (rl adr)).toArray c D cA cc own maxL (va_A (wld cA adr σ) s.heap.size) σ.1 (σ.1 + sp.2.2.1) :=
    ⟨hx, hb, hml, hown2, hts, hK, hN, fun q h => Or.inr h, Nat.le_refl _, by show SL (σ.1 + sp.2.2.1) ≤ SL σ.1 + (SL (σ.1 + sp.2.2.1) - SL σ.1); omega⟩
  have hR : RET p l e (headSpec (.code y cc maxL ret :: gtbl) { frames := fr, cells := sp.2.2.1, slots := SL (σ.1 + sp.2.2.1) - SL σ.1, locals := lo }).room s m (as.map (rl adr)).toArray below meth c D cA cc (va_A (wld cA adr σ) s.heap.size) σ.1 adr (σ.1 + sp.2.2.1)
      (MQ below (fun _ st oc t => (∃ (r : Option PV) (σ' : St) (adr' : Nat → Nat), oc = .returned (r.map (rl adr')) ∧ sp.2.2.2.2 as σ r σ' ∧ WF σ' ∧ (∀ v ∈ r.toList, okV σ'.1 v) ∧ σ'.1 = σ.1 + sp.2.2.1 ∧ (∀ o, o ≤ σ.1 → adr' o = adr o) ∧ va_P D vwCl (wld cA adr' σ') t.heap ∧ va_D (va_A (wld cA adr σ) s.heap.size) (wld cA adr' σ')) ∧ va_F (va_A (wld cA adr σ) s.heap.size) st t) (as.map (rl adr)).toArray s sp.2.2.1 (SL (σ.1 + sp.2.2.1) - SL σ.1) (va_A (wld cA adr σ) s.heap.size))
      (retK ret) (fun r σ' => sp.2.2.2.2 as σ r σ' ∧ σ'.1 = σ.1 + sp.2.2.1) := by
    intro i r pc σ' adr' H locs ls cells slots hd hi hq hwf' hok hP' hD' hS' hn0 hlm hadr hce hsl
    obtain ⟨hq, hn⟩ := hq
    have e1 : cells = sp.2.2.1 := by omega
    have e2 : slots = SL (σ.1 + sp.2.2.1) - SL σ.1 := by rw [hn] at hsl; omega
    subst e1
    subst e2
    have post : ∀ t : State, t.heap = H → (∃ (r' : Option PV) (σ'' : St) (adr'' : Nat → Nat), Outcome.returned (r.map (rl adr')) = .returned (r'.map (rl adr'')) ∧ sp.2.2.2.2 as σ r' σ'' ∧ WF σ'' ∧ (∀ v ∈ r'.toList, okV σ''.1 v) ∧ σ''.1 = σ.1 + sp.2.2.1 ∧ (∀ o, o ≤ σ.1 → adr'' o = adr o) ∧ va_P D vwCl (wld cA adr'' σ'') t.heap ∧ va_D (va_A (wld cA adr σ) s.heap.size) (wld cA adr'' σ'')) ∧ va_F (va_A (wld cA adr σ) s.heap.size) s t :=
      fun t ht => ⟨⟨r, σ', adr', rfl, hq, hwf', hok, hn, hadr, by rw [ht]; exact hP', hD'⟩, hS'.F ht⟩
    rcases r with _ | v
    · cases i <;> first | exact (hi : False).elim | skip
      exact W.vret hx hb (by rw [hr]; cases ret with | none => rfl | some t => cases t <;> cases hi) (fun t ht _ => post t ht) hS'.2.2 hd
    · rcases v with a | a | a
      · cases i <;> first | exact (hi : False).elim | skip
        rcases hi with hi | ⟨hi, h01⟩
        · exact W.iret hx hb (by rw [hr]; cases ret with | none => cases hi | some t => cases t <;> first | rfl | cases hi) (fun t ht _ => post t ht) hS'.2.2 hd
        · exact W.zret (ty := .boolean) hx hb (by rw [hr]; cases ret with | none => cases hi | some t => cases t <;> first | rfl | cases hi) (by rcases h01 with rfl | rfl <;> rfl) (fun t ht _ => post t ht) hS'.2.2 hd
      · cases i <;> first | exact (hi : False).elim | skip
        exact W.lret hx hb (by rw [hr]; cases ret with | none => cases hi | some t => cases t <;> first | rfl | cases hi) (fun t ht _ => post t ht) hS'.2.2 hd
      · cases i <;> first | exact (hi : False).elim | skip
        cases hret2 : ret with
        | none => rw [hret2] at hi; cases hi
        | some t =>
          refine W.aret (rt := t) hx hb (by rw [hr, hret2]) ?_ (Or.inr ⟨_, rfl⟩) (fun t ht _ => post t ht) hS'.2.2 hd
          rw [hret2] at hi
          cases t with
          | object n => exact Or.inl ⟨n, rfl⟩
          | array t => exact Or.inr ⟨t, rfl⟩
          | _ => cases hi
  exact hG _ (clo_gw C hchk hp (hcl _ rfl rfl) hoi (fun ci q => ⟨(hini ci q).1, (name_of_methodNamed B.named B.method).1.trans (hini ci q).2⟩) (fun _ _ q => by cases q) hR) adr s.heap [] _ 0 0 hwf (fun v h => by cases h) (pargs_ok as 0 hao) hl hP hD va_S.rf (Nat.le_refl _) (Nat.le_add_right _ _) (fun _ _ => rfl) (by omega) (by omega)
