/-! ===== a step of the pure machine is a step of the machine; what a method's contract is ===== -/
def ilen (i : Instr) : Nat := match i with
  | .bipush _ => 2
  | .sipush _ => 3
  | .ldc _ => 2
  | .ldc_w _ => 3
  | .ldc2_w _ => 3
  | .iload _ => 2
  | .lload _ => 2
  | .aload _ => 2
  | .istore _ => 2
  | .lstore _ => 2
  | .astore _ => 2
  | .iinc _ _ => 3
  | .goto _ => 3
  | .ifCond _ _ => 3
  | .if_icmp _ _ => 3
  | .getfield _ => 3
  | .putfield _ => 3
  | .newarray _ => 2
  | .anewarray _ => 3
  | .new _ => 3
  | .invokevirtual _ => 3
  | .invokestatic _ => 3
  | .invokespecial _ => 3
  | _ => 1
def ckK (cl : Cl) (n : Nat) : Nat := match ckAt cl n with
  | some q => q.1
  | none => 99
def jmp (pc : Nat) (offs : List Int) (tg : List Nat) : Bool := decide (offs.map (fun o => (pc : Int) + o) = tg.map Int.ofNat)
def exE (nL : Nat) (cl : Cl) (oi : Nat → Bool) (pc : Nat) (tg : List Nat) (i : Instr) : Bool := match i with
  | .iconst n => decide (-100 ≤ n ∧ n ≤ 100)
  | .bipush n => decide (-128 ≤ n ∧ n ≤ 127)
  | .sipush n => decide (-32768 ≤ n ∧ n ≤ 32767)
  | .istore j => decide (j < nL)
  | .istore_n j => decide (j.val < nL)
  | .astore j => decide (j < nL)
  | .astore_n j => decide (j.val < nL)
  | .lstore j => decide (j + 1 < nL)
  | .lstore_n j => decide (j.val + 1 < nL)
  | .iinc j _ => decide (j < nL)
  | .goto o => jmp pc [o] tg
  | .ifCond _ o => jmp pc [o] tg
  | .if_icmp _ o => jmp pc [o] tg
  | .invokevirtual n => Nat.beq (ckK cl n) 0
  | .invokestatic n => Nat.beq (ckK cl n) 1 || Nat.beq (ckK cl n) 4
  | .invokespecial n => oi n || (Nat.beq (ckK cl n) 2 || Nat.beq (ckK cl n) 3)
  | _ => true
def chkE (cc : ByteArray) (nL : Nat) (cl : Cl) (oi : Nat → Bool) (e : Nat × Instr × Nat × List Nat) : Bool := match e.2.1 with
  | .tableswitch d lo hi offs => decide (decode cc e.1 = .ok (.tableswitch d lo hi offs, e.2.2.1)) && (jmp e.1 (d :: offs.toList) e.2.2.2 && decide (hi = lo + offs.size - 1))
  | .lookupswitch d ps => decide (decode cc e.1 = .ok (.lookupswitch d ps, e.2.2.1)) && (jmp e.1 (d :: ps.toList.map (fun q => q.2)) e.2.2.2 && (ps.toList.zip (ps.toList.drop 1)).all (fun (a, next) => a.1 < next.1))
  | i => decide (decode cc e.1 = .ok (i, ilen i)) && (Nat.beq e.2.2.1 (e.1 + ilen i) && exE nL cl oi e.1 e.2.2.2 i)
theorem tab_mem {tb : Tab} {pc : Nat} {e : Instr × Nat × List Nat} (h : tabAt tb pc = some e) : (pc, e) ∈ tb := by
  induction tb with
  | nil => simp [tabAt] at h
  | cons q t ih =>
    unfold tabAt at h
    cases hj : Nat.beq q.1 pc with
    | true =>
      rw [hj] at h
      have h1 : q.1 = pc := Nat.eq_of_beq_eq_true hj
      cases h
      subst h1
      exact List.mem_cons_self
    | false =>
      rw [hj] at h
      exact List.mem_cons_of_mem _ (ih h)
theorem ck_mem {cl : Cl} {n : Nat} {q : Nat × Sp} (h : ckAt cl n = some q) : (q.1, n, q.2) ∈ cl := by
  induction cl with
  | nil => simp [ckAt] at h
  | cons a t ih =>
    unfold ckAt at h
    cases hj : Nat.beq a.2.1 n with
    | true =>
      rw [hj] at h
      have h1 : a.2.1 = n := Nat.eq_of_beq_eq_true hj
      cases h
      subst h1
      exact List.mem_cons_self
    | false =>
      rw [hj] at h
      exact List.mem_cons_of_mem _ (ih h)
theorem ck_sp {cl : Cl} {n k : Nat} (h : ckK cl n = k) (hk : k ≠ 99) : (k, n, spAt cl n) ∈ cl := by
  unfold ckK at h
  unfold spAt
  cases hq : ckAt cl n with
  | none => rw [hq] at h; exact absurd h.symm hk
  | some q => rw [hq] at h; subst h; exact ck_mem hq
theorem Nest.of {s U : State} (hW : s.WarmedH U.vm) (h : Nest s) : Nest U := ⟨fun q hq => va_Nw.warmM hW (h.1 q hq), va_AO.moved hW.alike h.2⟩
theorem Nest.same {s U : State} (hv : s.vm = U.vm) (h : Nest s) : Nest U := ⟨fun q hq => va_Nw.same rfl hv (h.1 q hq), va_AO.moved (by rw [hv]; exact Vm.Alike.refl _) h.2⟩
/-- a method's contract in the pure machine's words -/
def PM (l : Launch) (D : va_G) (cA : Nat → ClassId) (y : MethodName) (bytes : ByteArray) (maxL : Nat) (ret : Option FieldType) (fr lo : Nat) (sp : Sp) : Prop :=
  ∀ (adr : Nat → Nat) (σ : St) (as : List PV) (sz : Nat), WF σ → (∀ v ∈ as, okV σ.1 v) → sp.2.2.2.1 as σ →
    Met l y (.code y bytes maxL ret :: gtbl) { frames := fr, cells := sp.2.2.1, slots := SL (σ.1 + sp.2.2.1) - SL σ.1, locals := lo }
      (va_Pc (as.map (rl adr)) (fun U => U.heap.size = sz ∧ va_P D vwCl (wld cA adr σ) U.heap ∧ va_K D vwCl (tysOf cA) U ∧ Nest U ∧ va_D (fun _ => True) (wld cA adr σ)))
      (fun _ st oc t => (∃ (r : Option PV) (σ' : St) (adr' : Nat → Nat), oc = .returned (r.map (rl adr')) ∧ sp.2.2.2.2 as σ r σ' ∧ WF σ' ∧ (∀ v ∈ r.toList, okV σ'.1 v) ∧ σ'.1 = σ.1 + sp.2.2.1 ∧ (∀ o, o ≤ σ.1 → adr' o = adr o) ∧ va_P D vwCl (wld cA adr' σ') t.heap ∧ va_D (va_A (wld cA adr σ) sz) (wld cA adr' σ')) ∧ va_F (va_A (wld cA adr σ) sz) st t)
      sp.2.2.1 (SL (σ.1 + sp.2.2.1) - SL σ.1) (va_A (wld cA adr σ) sz)
/-- a call's facts: the callee's contract, its room, its words -/
def CF (l : Launch) (D : va_G) (cA : Nat → ClassId) (own : String) (R : Room) (q : Nat × Nat × Sp) : Prop :=
  ∃ (y : MethodName) (bytes : ByteArray) (maxL : Nat) (ret : Option FieldType) (fr lo : Nat), PM l D cA y bytes maxL ret fr lo q.2.2 ∧ (fr + 1 ≤ R.frames ∧ 8 + (maxL + 11) + lo ≤ R.locals) ∧ Cond.code y bytes maxL ret ∈ gtbl ∧ Cond.initialized y.cls ∈ gtbl ∧ (y.cls ≠ "java/lang/invoke/MethodHandle" ∧ y.cls ≠ "java/lang/invoke/VarHandle") ∧
    match q.1 with
    | 0 => Cond.methodLink own q.2.1 y ∈ gtbl ∧ Cond.instanceMethod y ∈ gtbl ∧ Cond.selects (fR q.2.2.2.1) y y ∈ gtbl ∧ q.2.2.2.1 < 12 ∧ (parseMethodDescriptor y.desc).map (fun d => d.parameters.length + 1) = some q.2.2.1
    | 1 => Cond.methodLink own q.2.1 y ∈ gtbl ∧ Cond.static y ∈ gtbl ∧ (parseMethodDescriptor y.desc).map (fun d => d.parameters.length) = some q.2.2.1
    | 2 => Cond.methodLink own q.2.1 y ∈ gtbl ∧ Cond.instanceMethod y ∈ gtbl ∧ y.name = "<init>" ∧ ret = none ∧ (parseMethodDescriptor y.desc).map (fun d => d.parameters.length + 1) = some q.2.2.1
    | 3 => (∃ host, (own, q.2.1, y, host) ∈ fNest) ∧ Cond.instanceMethod y ∈ gtbl ∧ y.name = "<init>" ∧ ret = none ∧ (parseMethodDescriptor y.desc).map (fun d => d.parameters.length + 1) = some q.2.2.1
    | 4 => (∃ host, (own, q.2.1, y, host) ∈ fNest) ∧ Cond.static y ∈ gtbl ∧ (parseMethodDescriptor y.desc).map (fun d => d.parameters.length) = some q.2.2.1
    | _ => False
theorem g_good {w : Cond} (h : w ∈ gtbl) : goodWord w = true := (List.mem_filter.mp h).2
theorem g_in {w : Cond} (h : w ∈ gtbl) : GoodIn gtbl (w :: gtbl) := by
  intro x hx
  have hm : x ∈ gtbl := (List.mem_cons.mp hx).elim (fun q => q ▸ h) id
  exact ⟨hm, good_of_word (g_good hm)⟩
theorem rl_eq {adr adr' : Nat → Nat} {n : Nat} (ha : ∀ o, o ≤ n → adr' o = adr o) {v : PV} (h : okV n v) : rl adr' v = rl adr v := by
  rcases v with a | a | a
  · rfl
  · rfl
  · show Value.ref _ = Value.ref _
    rw [ha a h]
section CALLS
variable {p : Program} {l : Launch} {e : Env} {R : Room} {s : State} {m : MethodId} {args : Array Value} {below : List Frame} {meth : Method} {c : Code} {D : va_G} {cA : Nat → ClassId} {nL : Nat} {A : Nat → Prop} {n0 : Nat} {adr0 : Nat → Nat} {lim : Nat} {Qm : State → Prop} {cc : ByteArray} {own : String}
variable {pc : Nat} {L : LoT} {σ : St}
/-- behind a call that has run -/
theorem gw_ran (C : Hr p R s m args c D cA cc own nL A n0 lim) {adr : Nat → Nat} {H : Heap} {locs : List Jvm.Loc} {ls : Array Slot} {cells slots : Nat} {as rest : List PV} {sp : Sp} {a : Array Value} {st0 : List Value}
    (hst : ∀ v ∈ rest, okV σ.1 v) (hlo : ∀ q ∈ L, okV σ.1 q.2) (hl : lv_has ls nL (L.map fun q => (q.1, rl adr q.2))) (hD : va_D A (wld cA adr σ)) (hS : va_S A s.heap H locs) (hn0 : n0 ≤ σ.1) (hlim : σ.1 + sp.2.2.1 ≤ lim) (hadr : ∀ o, o ≤ n0 → adr o = adr0 o) (hce : cells + n0 = σ.1) (hsl : slots + SL n0 = SL σ.1)
    (hr : va_Run p l e R s m args below meth c H locs cells slots sp.2.2.1 (SL (σ.1 + sp.2.2.1) - SL σ.1) (F0 m pc ls st0) (rest.map (rl adr)) (fun st oc t => (∃ (r : Option PV) (σ' : St) (adr' : Nat → Nat), oc = .returned (r.map (rl adr')) ∧ sp.2.2.2.2 as σ r σ' ∧ WF σ' ∧ (∀ v ∈ r.toList, okV σ'.1 v) ∧ σ'.1 = σ.1 + sp.2.2.1 ∧ (∀ o, o ≤ σ.1 → adr' o = adr o) ∧ va_P D vwCl (wld cA adr' σ') t.heap ∧ va_D (va_A (wld cA adr σ) H.size) (wld cA adr' σ')) ∧ va_F (va_A (wld cA adr σ) H.size) st t) (va_A (wld cA adr σ) H.size))
    (hk : ∀ (r : Option PV) (σ' : St), sp.2.2.2.2 as σ r σ' → GW p l e R s m args below meth c D cA nL A n0 adr0 lim Qm (pc + 3) L (r.toList ++ rest) σ') :
    W p l e R s m args below meth c H locs cells slots Qm (F0 m pc ls st0) := by
  obtain ⟨hx, hb, hml, hown, hts, hK, hN, hA, hlc, hls⟩ := C
  have hF : ∀ q, va_A (wld cA adr σ) H.size q → A q := by
    intro q hq
    rcases hq with ⟨k, w, hq⟩ | hq
    · exact hD.2 k _ hq
    · exact hA q (Nat.le_trans hS.1 hq)
  intro T hT X
  obtain ⟨v, st₀, t, T', LL, h0, X', hLL, e1, e2, ⟨⟨r, σ', adr', hv, hpost, hwf', hr', hn', hadr', hP', hD'⟩, hz, hfr⟩, st⟩ := hr T hT X
  have hvv : v = r.map (rl adr') := by injection hv
  rw [h0] at hz hfr
  have hle : σ.1 ≤ σ'.1 := by rw [hn']; exact Nat.le_add_right _ _
  have hm1 := SL_mono (Nat.le_add_right σ.1 sp.2.2.1)
  have hm2 := SL_mono hn0
  have kk := hk r σ' hpost adr' T'.heap (locs ++ LL) ls (cells + sp.2.2.1) (slots + (SL (σ.1 + sp.2.2.1) - SL σ.1)) hwf'
    (fun w hw => (List.mem_append.mp hw).elim (hr' w) (fun q => okV_mono hle (hst w q)))
    (fun q hq => okV_mono hle (hlo q hq))
    (by rw [List.map_congr_left (fun q hq => by rw [rl_eq hadr' (hlo q hq)])]; exact hl)
    (by rw [e1]; exact hP')
    (hD'.weaken (fun _ q _ h => hF q.1 h))
    ⟨Nat.le_trans hS.1 (by rw [e1]; exact hz), fun q h1 h2 => by rw [e1, hfr q (Nat.lt_of_lt_of_le h1 hS.1) (fun z => h2 (hF q z))]; exact hS.2.1 q h1 h2, fun q hq => (List.mem_append.mp hq).elim (hS.2.2 q) (fun h => hF _ (hLL q h))⟩
    (Nat.le_trans hn0 hle) (by rw [hn']; exact hlim) (fun o ho => by rw [hadr' o (Nat.le_trans ho hn0)]; exact hadr o ho) (by omega) (by rw [hn']; omega)
  rw [List.map_append, List.map_congr_left (fun w hw => rl_eq hadr' (hst w hw)), show r.toList.map (rl adr') = v.toList from by rw [hvv]; cases r <;> rfl] at kk
  obtain ⟨t2, a1, b1⟩ := kk T' rfl X'
  exact ⟨t2, st t2 a1, b1⟩
theorem pm_blind {as : List PV} {adr : Nat → Nat} {sz : Nat} : FrameBlind (va_Pc (as.map (rl adr)) (fun U => U.heap.size = sz ∧ va_P D vwCl (wld cA adr σ) U.heap ∧ va_K D vwCl (tysOf cA) U ∧ Nest U ∧ va_D (fun _ => True) (wld cA adr σ))) := by
  intro a U g mk q
  obtain ⟨q0, q1, qP, qK, qN, qD⟩ := q
  exact ⟨q0, q1, qP, va_K.moved (u := U) (U := U.calling g mk a) (Vm.Alike.refl U.vm) qK, qN.same rfl, qD⟩
theorem np_of {o : Option MethodDescriptor} {n k : Nat} (h : o.map (fun d => d.parameters.length + 1) = some n) (hk : n = k + 1) : o.map (fun d => d.parameters.length) = some k := by
  cases o with
  | none => cases h
  | some d =>
    have h1 : d.parameters.length + 1 = n := Option.some.inj h
    show some d.parameters.length = some k
    rw [show d.parameters.length = k by omega]
theorem take_rev {α : Type} (n : Nat) (st : List α) : st = ((st.take n).reverse).reverse ++ st.drop n := by rw [List.reverse_reverse, List.take_append_drop]
theorem gw_call (C : Hr p R s m args c D cA cc own nL A n0 lim) {k n : Nat} {sp : Sp} (hf : CF l D cA own R (k, n, sp)) {i : Instr}
    (hi : k = 0 ∧ i = .invokevirtual n ∨ k = 1 ∧ i = .invokestatic n ∨ k = 2 ∧ i = .invokespecial n ∨ k = 3 ∧ i = .invokespecial n ∨ k = 4 ∧ i = .invokestatic n)
    (hd : decode cc pc = .ok (i, 3)) {st : List PV} (hrc : k ≠ 1 → k ≠ 4 → recvG sp.2.1 (st.take sp.1).reverse)
    (h : callG sp lim (fun st' σ' => GW p l e R s m args below meth c D cA nL A n0 adr0 lim Qm (pc + 3) L st' σ') st σ) : GW p l e R s m args below meth c D cA nL A n0 adr0 lim Qm pc L st σ := by
  obtain ⟨hb1, hpre, hk⟩ := h
  simp only [Bool.and_eq_true, Bool.or_eq_true] at hb1
  obtain ⟨hlen, hsum, hmc⟩ := hb1
  have hlen : sp.1 ≤ st.length := Nat.le_of_ble_eq_true hlen
  have hsum : psum (st.drop sp.1) ≤ 8 := Nat.le_of_ble_eq_true hsum
  intro adr H locs ls cells slots hwf hst hlo hl hP hD hS hn0 hlm hadr hce hsl
  have hmc : σ.1 + sp.2.2.1 ≤ lim := hmc.elim (fun q => by rw [Nat.eq_of_beq_eq_true q]; exact hlm) Nat.le_of_ble_eq_true
  have C0 := C
  obtain ⟨hx, hb, hml, hown, hts, hK, hN, hA, hlc, hls⟩ := C
  obtain ⟨y, bytes, maxL, ret, fr, lo, hPM, hR, hcode, hini, hmh, hkind⟩ := hf
  generalize has : (st.take sp.1).reverse = as at hpre hrc hk
  generalize hre : st.drop sp.1 = rest at hsum hk
  have hsplit : st = as.reverse ++ rest := by rw [← has, ← hre]; exact take_rev sp.1 st
  have hal : as.length = sp.1 := by rw [← has, List.length_reverse, List.length_take]; omega
  have hast : ∀ v ∈ as, okV σ.1 v := fun v hv => hst v (by rw [hsplit]; exact List.mem_append_left _ (List.mem_reverse.mpr hv))
  have hrst : ∀ v ∈ rest, okV σ.1 v := fun v hv => hst v (by rw [hsplit]; exact List.mem_append_right _ hv)
  have hM := hPM adr σ as H.size hwf hast hpre
  have hm1 := SL_mono hmc
  have hm2 := SL_mono hn0
  have hm3 := SL_mono (Nat.le_add_right σ.1 sp.2.2.1)
  have hroom : cells + sp.2.2.1 ≤ R.cells ∧ slots + (SL (σ.1 + sp.2.2.1) - SL σ.1) ≤ R.slots := ⟨by omega, by omega⟩
  have hW : 2 * (F0 m pc ls (st.map (rl adr))).monitorRoom + ((rest.map (rl adr)).map fun v => v.category).sum ≤ 8 := lv_room (by rw [psum_eq]; exact hsum)
  have hpc : ∀ U : State, U.heap = H → s.WarmedH U.vm → va_Pc (as.map (rl adr)) (fun U => U.heap.size = H.size ∧ va_P D vwCl (wld cA adr σ) U.heap ∧ va_K D vwCl (tysOf cA) U ∧ Nest U ∧ va_D (fun _ => True) (wld cA adr σ)) (as.map (rl adr)).toArray U := fun U hU hW => ⟨rfl, by rw [hU], by rw [hU]; exact hP, va_K.moved hW.alike hK, hN.of hW, hD.weaken (fun _ _ _ _ => trivial)⟩
  have hG := g_in hcode
  have hgo := gw_ran C0 (as := as) (rest := rest) (sp := sp) (a := (as.map (rl adr)).toArray) (st0 := st.map (rl adr)) (adr0 := adr0) (Qm := Qm) (l := l) (e := e) (below := below) (meth := meth) (pc := pc) hrst hlo hl hD hS hn0 hmc hadr hce hsl
  have hstk : st.map (rl adr) = (as.map (rl adr)).reverse ++ rest.map (rl adr) := by
    conv => lhs; rw [hsplit]
    rw [List.map_append, List.map_reverse]
  rcases hi with ⟨rfl, rfl⟩ | ⟨rfl, rfl⟩ | ⟨rfl, rfl⟩ | ⟨rfl, rfl⟩ | ⟨rfl, rfl⟩
  · obtain ⟨w1, w2, w3, w4, w5⟩ := hkind
    have hrc := hrc (by decide) (by decide)
    rcases as with _ | ⟨v, as⟩
    · exact (hrc : False).elim
    rcases v with v | v | o
    · exact (hrc : False).elim
    · exact (hrc : False).elim
    have hrc : (fK o).1 = 10 + sp.2.1 := hrc
    have w4 : sp.2.1 < 12 := w4
    have hnp := np_of (k := as.length) w5 (by rw [← hal]; rfl)
    refine hgo ?_ hk
    exact va_runV (C := fR sp.2.1) (As := as.map (rl adr)) (b := adr o) (n := as.length) ⟨hx, hb, hml, hown, hts⟩ hM
      ⟨callB_of as.length hts hG rfl rfl rfl (hts _ hini) (hts _ w1) ⟨hmh.1, hmh.2, hnp⟩ hR, hts _ w2, hts _ w3⟩
      ⟨pm_blind, va_recv hK hP (ci := sp.2.1) (q0 := o - 1) (q := (fR sp.2.1, fT sp.2.1, fN sp.2.1)) (cl_at _ w4) (by rw [wld_at (pos_i hrc (by omega)) (hast (vr o) List.mem_cons_self), cel_o hrc]), hpc⟩ rfl (by rw [List.length_map]) hl.1 (by rw [hstk, List.map_cons, List.reverse_cons, List.append_assoc]; rfl) hW hd hroom
  · obtain ⟨w1, w2, w5⟩ := hkind
    refine hgo ?_ hk
    exact va_runS (As := as.map (rl adr)) (n := sp.1) ⟨hx, hb, hml, hown, hts⟩ hM ⟨callB_of sp.1 hts hG rfl rfl rfl (hts _ hini) (hts _ w1) ⟨hmh.1, hmh.2, w5⟩ hR, hts _ w2⟩ ⟨pm_blind, hpc⟩ rfl (by rw [List.length_map]; exact hal) hl.1 hstk hW hd hroom
  · obtain ⟨w1, w2, w3, w4, w5⟩ := hkind
    subst w4
    have hrc := hrc (by decide) (by decide)
    rcases as with _ | ⟨v, as⟩
    · exact (hrc : False).elim
    rcases v with v | v | o
    · exact (hrc : False).elim
    · exact (hrc : False).elim
    have hnp := np_of (k := as.length) w5 (by rw [← hal]; rfl)
    refine hgo ?_ hk
    exact va_runI (As := as.map (rl adr)) (b := adr o) (n := as.length) ⟨hx, hb, hml, hown, hts⟩ hM
      ⟨callB_of as.length hts hG rfl rfl rfl (hts _ hini) (hts _ w1) ⟨hmh.1, hmh.2, hnp⟩ hR, w3, hts _ w2⟩
      ⟨pm_blind, hpc⟩ rfl (by rw [List.length_map]) hl.1 (by rw [hstk, List.map_cons, List.reverse_cons, List.append_assoc]; rfl) hW hd hroom
  · obtain ⟨⟨host, w1⟩, w2, w3, w4, w5⟩ := hkind
    subst w4
    have hrc := hrc (by decide) (by decide)
    rcases as with _ | ⟨v, as⟩
    · exact (hrc : False).elim
    rcases v with v | v | o
    · exact (hrc : False).elim
    · exact (hrc : False).elim
    have hnp := np_of (k := as.length) w5 (by rw [← hal]; rfl)
    refine hgo ?_ hk
    exact va_runIN (host := host) (As := as.map (rl adr)) (b := adr o) (n := as.length) ⟨hx, hb, hml, hown, hts⟩ hM
      ⟨va_cnB as.length hts hG rfl rfl rfl (hN.1 _ w1) (hts _ hini) ⟨hmh.1, hmh.2, hnp⟩ hR, w3, hts _ w2⟩
      ⟨pm_blind, hpc⟩ rfl (by rw [List.length_map]) hl.1 (by rw [hstk, List.map_cons, List.reverse_cons, List.append_assoc]; rfl) hW hd hroom
  · obtain ⟨⟨host, w1⟩, w2, w5⟩ := hkind
    refine hgo ?_ hk
    exact va_runSN (host := host) (As := as.map (rl adr)) (n := sp.1) ⟨hx, hb, hml, hown, hts⟩ hM ⟨va_cnB sp.1 hts hG rfl rfl rfl (hN.1 _ w1) (hts _ hini) ⟨hmh.1, hmh.2, w5⟩ hR, hts _ w2, trivial⟩ ⟨pm_blind, hpc⟩ rfl (by rw [List.length_map]; exact hal) hl.1 hstk hW hd hroom
end CALLS
