/-! THE CLAIM OUT OF ONE WALK OF THE LAW'S BODY. Your part is whole_start (and what it stands on); all else here is the same for every law, but numbers. -/
def R_law : String := "ForecastHallLaw"
def lw_P (b : Addr) (xs : List Int32) (args : Array Value) (s : State) : Prop := args = #[.ref b] ∧ s.IntsAt b xs ∧ xs.length ≤ 3584 ∧ (Jvm.Cond.and given_1 narrow_1).before args s = true
def lw_Q (_ : Array Value) (s : State) (o : Outcome) (t : State) : Prop := o = .returned (some (.int 1)) ∧ Framed s o t [] 600000 7302250
def lw_Z (below : List Frame) (a : Array Value) (s : State) : State → Prop := fun t => ∃ o, t.status = .running ∧ Ended t below o ∧ lw_Q a s o t
/-- the law's own end, with 1 on the stack, nothing written that was there before, its room as the claim has it -/
theorem lw_ret {p : Program} {l : Launch} {e : Env} {s : State} {m : MethodId} {below : List Frame} {meth : Method} {c : Code} {b : Nat} (hx : p.tables.exec = Jvm.exec) (hb : c.code = code) (hr : meth.sig.returnType = ret) (hlocks : meth.locks = false) {pc : Nat} {H : Heap} {ls : Array Slot} (hdg : decode code pc = .ok (.ireturn, 1)) : W p l e room_1 s m #[Value.ref b] below meth c H [] 600000 7302250 (lw_Z below #[Value.ref b] s) (F0 m pc ls [.int 1]) := by
  intro T hT X
  obtain ⟨fs, hret, hrun, hended, hW, hframe⟩ := X.leave (v := some (.int 1)) (hlocks := hlocks) (fun h => by rw [hr] at h; cases h)
  have hmeth' : T.vm.method? m = some meth := X.method'
  refine ⟨T.setFrames fs, ?_, .returned (some (.int 1)), hrun, hended, rfl, ⟨_, rfl⟩, hW, hframe⟩
  jvm_step X.here [X.here.top, hx, hb, hdg, hmeth', hr, ret, narrow_b1]
  (try refine ⟨rfl, ?_⟩); (try refine ⟨rfl, ?_⟩)
  first | (intro acts; rw [hret _ acts rfl rfl rfl]) | rw [hret _ _ rfl rfl rfl]
  exact Steps.refl _
/-- what holds at the law's entry: the machine, the code, the tables' words (any of lw_tbl by 'hts w (by decide +kernel)'), the script of L ints xs at the cell b, what the Statement gives of the start (any of its parts by flat_of_before) -/
def lw_At (p : Program) (s : State) (m : MethodId) (meth : Method) (c : Code) (b L : Nat) (xs : Nat → Int32) : Prop :=
  p.tables.exec = Jvm.exec ∧ c.code = code ∧ meth.sig.returnType = ret ∧ c.maxLocals = 4 ∧ s.vm.findClass R_law = some m.cls ∧ (∀ w ∈ lw_tbl, w.before #[Value.ref b] s = true) ∧ va_X b L xs s s.heap ∧ b < s.heap.size ∧ meth.locks = false ∧ (Jvm.Cond.and given_1 narrow_1).before #[Value.ref b] s = true
def w48l : List Cond := [Cond.instantiable (fR 10) (fN 10), Cond.instantiable (fR 3) (fN 3), Cond.arrayClass .int, Cond.instantiable (fR 6) (fN 6), Cond.methodLinkNest "ForecastHall" 23 ⟨"ForecastHall$Reader", "<init>", "()V"⟩ "ForecastHall", Cond.instantiable (fR 5) (fN 5), Cond.arrayClass .boolean, Cond.instantiable (fR 7) (fN 7), Cond.arrayOver (.object RX7), Cond.instantiable (fR 0) (fN 0), Cond.instantiable (fR 4) (fN 4), Cond.methodLinkNest "ForecastHall" 59 ⟨"ForecastHall$Marks", "<init>", "()V"⟩ "ForecastHall", Cond.instantiable (fR 1) (fN 1), Cond.arrayClass .long, Cond.instantiable (fR 2) (fN 2), Cond.instantiable (fR 9) (fN 9), Cond.methodLinkNest "ForecastHall" 80 ⟨"ForecastHall$Times", "<init>", "()V"⟩ "ForecastHall", Cond.instantiable (fR 8) (fN 8), Cond.methodLinkNest "ForecastHall" 87 ⟨"ForecastHall$Share", "<init>", "()V"⟩ "ForecastHall", Cond.methodLinkNest "ForecastHall$Share" 17 ⟨"ForecastHall$Times", "<init>", "()V"⟩ "ForecastHall", Cond.methodLinkNest "ForecastHall$Reader" 43 ⟨"ForecastHall", "isLetter", "(I)Z"⟩ "ForecastHall", Cond.instantiable (fR 11) (fN 11)]
set_option maxRecDepth 100000 in
theorem w48_ok : pick lw_tbl [90, 7, 42, 1, 0, 4, 63, 22, 47, 1, 25, 0, 11, 33, 1, 15, 0, 22, 0, 4, 154, 482] = w48l := rfl
theorem w48 (i : Nat) (w : Cond) (h : w48l[i]? = some w) : w ∈ lw_tbl := pick_mem [90, 7, 42, 1, 0, 4, 63, 22, 47, 1, 25, 0, 11, 33, 1, 15, 0, 22, 0, 4, 154, 482] lw_tbl w (by rw [w48_ok]; exact List.mem_of_getElem? h)
/-- the classes and the arrays' classes, as the start has them -/
theorem law_K {s : State} {b : Nat} (hts : ∀ w ∈ lw_tbl, w.before #[Value.ref b] s = true) : ∃ (D : va_G) (cA : Nat → ClassId), va_K D vwCl (tysOf cA) s := by
  have hg : ∀ w ∈ gtbl, w.before #[Value.ref b] s = true := fun w hw => hts w (List.mem_filter.mp hw).1
  have hin : ∀ ci, ci < 12 → Cond.instantiable (fR ci) (fN ci) ∈ lw_tbl := fun ci h => match ci, h with
    | 0, _ => w48 9 _ rfl
    | 1, _ => w48 12 _ rfl
    | 2, _ => w48 14 _ rfl
    | 3, _ => w48 1 _ rfl
    | 4, _ => w48 10 _ rfl
    | 5, _ => w48 5 _ rfl
    | 6, _ => w48 3 _ rfl
    | 7, _ => w48 7 _ rfl
    | 8, _ => w48 17 _ rfl
    | 9, _ => w48 15 _ rfl
    | 10, _ => w48 0 _ rfl
    | 11, _ => w48 21 _ rfl
    | n + 12, h => absurd h (by omega)
  have hc : ∀ ci, ∃ q : ClassId × (Nat → Nat), ci < 12 → u_Kn s (fR ci) (fT ci) (fN ci) q.1 q.2 := by
    intro ci
    by_cases h : ci < 12
    · obtain ⟨c, iS, hk⟩ := u_known (C := fR ci) (T := fT ci) (N := fN ci) (n := fN ci) hg (gt_ws ci h) (hts _ (hin ci h))
      exact ⟨(c, iS), fun _ => hk⟩
    · exact ⟨(default, fun _ => 0), fun q => absurd q h⟩
  obtain ⟨cI, kI, pI, i1, i2, i3⟩ := Cond.arrayClass_spec (hts (Cond.arrayClass .int) (w48 2 _ rfl))
  obtain ⟨cJ, kJ, pJ, j1, j2, j3⟩ := Cond.arrayClass_spec (hts (Cond.arrayClass .long) (w48 13 _ rfl))
  obtain ⟨cZ, kZ, pZ, z1, z2, z3⟩ := Cond.arrayClass_spec (hts (Cond.arrayClass .boolean) (w48 6 _ rfl))
  obtain ⟨pO, cO, kO, o1, o2, o3, o4, o5⟩ := Cond.arrayOver_spec (hts (Cond.arrayOver (.object RX7)) (w48 8 _ rfl))
  refine ⟨(fun ci => (Classical.choose (hc ci)).1, fun ci => (Classical.choose (hc ci)).2), fun t => match t with
    | 0 => cI
    | 1 => cJ
    | 2 => cZ
    | _ => cO, fun c q hq => ?_, fun k q hk => ?_⟩
  · have hl : c < 12 := (List.getElem?_eq_some_iff.mp hq).1
    rw [cl_at c hl] at hq
    cases hq
    exact Classical.choose_spec (hc c) hl
  · match k, hk with
    | 0, hk => cases hk; exact ⟨fun n z => ⟨fun k h => (by cases h), kI, i2, pI, i3⟩, i1⟩
    | 1, hk => cases hk; exact ⟨fun n z => ⟨fun k h => (by cases h), kJ, j2, pJ, j3⟩, j1⟩
    | 2, hk => cases hk; exact ⟨fun n z => ⟨fun k h => (by cases h), kZ, z2, pZ, z3⟩, z1⟩
    | 3, hk => cases hk; exact ⟨fun n z => ⟨fun k h => (by cases h), kO, o3, pO, o4⟩, kO, pO, o3, o4, o1, o5⟩
    | k + 4, hk => cases hk
theorem law_Nest {s : State} {b : Nat} (hts : ∀ w ∈ lw_tbl, w.before #[Value.ref b] s = true) : Nest s := by
  have hn : ∀ q ∈ fNest, Cond.methodLinkNest q.1 q.2.1 q.2.2.1 q.2.2.2 ∈ lw_tbl := List.forall_mem_cons.mpr ⟨w48 4 _ rfl, List.forall_mem_cons.mpr ⟨w48 11 _ rfl, List.forall_mem_cons.mpr ⟨w48 16 _ rfl, List.forall_mem_cons.mpr ⟨w48 18 _ rfl, List.forall_mem_cons.mpr ⟨w48 19 _ rfl, List.forall_mem_cons.mpr ⟨w48 20 _ rfl, List.forall_mem_nil _⟩⟩⟩⟩⟩⟩
  exact ⟨fun q hq => va_Nw.of rfl (hts _ (hn q hq)), va_AO.of (hts (Cond.arrayOver (.object RX7)) (w48 8 _ rfl))⟩
theorem whole_start {p : Program} {e : Env} {s : State} {m : MethodId} {below : List Frame} {meth : Method} {c : Code} (l : Launch) (hflags : l.flags = flags0) {b L : Nat} {xs : Nat → Int32} (hL : L ≤ 3584) (C0 : lw_At p s m meth c b L xs) : W p l e room_1 s m #[Value.ref b] below meth c s.heap [] 0 0 (lw_Z below #[Value.ref b] s) (entryFrame m ([Value.ref b] : List Value).toArray 4) := by
  obtain ⟨hx, hb, hr, hml, hown, hts, hX, hbl, hlocks, hgv⟩ := id C0
  obtain ⟨D, cA, hK⟩ := law_K hts
  have hg : ∀ w ∈ gtbl, w.before #[Value.ref b] s = true := fun w hw => hts w (List.mem_filter.mp hw).1
  have C : Hr p room_1 s m #[Value.ref b] c D cA code RL 4 (fun q : Nat => s.heap.size ≤ q) 0 130 :=
    ⟨hx, hb, hml, hown, hg, hK, law_Nest hts, fun q h => h, by decide, by decide +kernel⟩
  have hR : RET p l e room_1 s m #[Value.ref b] below meth c D cA code (fun q : Nat => s.heap.size ≤ q) 0 (fun _ => b) 130 (lw_Z below #[Value.ref b] s) 1 QL := by
    intro i r pc σ adr H locs ls cells slots hd hi hq hwf hok hP hD hS hn0 hlm hadr hce hsl
    have hr1 : r = some (vi 1) := hq
    subst hr1
    cases i <;> first | exact (hi : False).elim | skip
    have h130 := SL_mono hlm
    have hs0 : SL 130 ≤ 7302250 := by decide +kernel
    refine va_forget (fun q hq => hS.2.2 q hq) ?_
    refine W.widen (k := 600000) (n := 7302250) (by omega) (by omega) ?_
    exact lw_ret hx hb hr hlocks hd
  have hG := clo_gw (own := RL) (tb := tb_L) (cl := clL) (P := PL) (oi := oiN) (ini := 0) (scr := some (L, fun j => (xs j).toInt)) (Q := QL) (rt := 1) C (chk_of ch_L) PL_ok cfL oiN_ok (fun ci h => by cases h)
    (fun Lx ys hs => by
      cases hs
      refine ⟨by omega, fun j _ => i32_rng (xs j), b, rfl, ?_, hbl, Nat.not_le.mpr hbl⟩
      have e : (fun j => Int32.ofInt ((xs j).toInt)) = xs := funext fun j => Int32.ofInt_toInt (xs j)
      rw [e]
      exact hX) hR
  have hP : va_P D vwCl (wld cA (fun _ => b) (0, Zi, fun _ _ => 0)) s.heap := fun k q h => (by simp [wld] at h)
  have hD : va_D (fun q : Nat => s.heap.size ≤ q) (wld cA (fun _ => b) (0, Zi, fun _ _ => 0)) := ⟨fun i j p q h => (by simp [wld] at h), fun k q h => (by simp [wld] at h)⟩
  have hl := lv_entry ([.ref b]) (n := 4) (Nat.le_of_ble_eq_true rfl)
  rw [lg_entry_eq]
  exact law_run hG hL (fun _ => b) s.heap [] _ 0 0 Zi_wf (fun v h => by cases h) (fun q h => by
    rcases List.mem_cons.mp h with rfl | h
    · exact Nat.le_refl _
    · cases h) hl hP hD va_S.rf (Nat.le_refl _) (by decide) (fun _ _ => rfl) rfl rfl
set_option maxHeartbeats 4000000 in
theorem lw_walk (l : Launch) (hflags : l.flags = flags0) (b : Addr) (xs : List Int32) : MetFree l x (headSpec (Jvm.Cond.code x code maxLocals ret :: tables_1) room_1) (lw_P b xs) (fun _ _ _ _ _ => True) lw_Q := by
  refine MetFree.of_bodyS (code := code) (maxLocals := maxLocals) (ret := ret) (by decide) ?_ ?_
  · intro args s m h hn
    obtain ⟨meth, c, h1, h2, h3, h4, h5, h6, -, -⟩ := Cond.code_spec hn (atoms_spec (ws := Jvm.Cond.code x code maxLocals ret :: tables_1) h _ List.mem_cons_self)
    exact ⟨meth, c, h1, h2, h3, h4, h5, h6⟩
  · intro p e s m args below meth c s₁ B hml0 hP _
    obtain ⟨rfl, hx, hbd, hgv⟩ := hP
    obtain ⟨scr, harrAt, hlist, hof, hsmall⟩ := hx
    obtain ⟨hcb, hkn, -, -⟩ := State.arrayAt?_spec harrAt
    have hown : s.vm.findClass R_law = some m.cls := findClass_of_methodNamed B.named
    have hts0 : ∀ c ∈ (Jvm.Cond.code x code maxLocals ret :: tables_1), c.before #[Value.ref b] s = true := atoms_spec (ws := Jvm.Cond.code x code maxLocals ret :: tables_1) B.pre
    have hts : ∀ w ∈ lw_tbl, w.before #[Value.ref b] s = true := k2_hts_sels lw_privs (fun w hw => hts0 w (List.mem_cons_of_mem _ hw)) lw_privs_ok
    have hml : c.maxLocals = 4 := B.maxLocals_eq (hts0 _ List.mem_cons_self)
    have X₀ : Stand p l e room_1 s m #[Value.ref b] below meth c s₁ [] 0 0 := Stand.of_body B
    have hh0 : s₁.heap = s.heap := by rw [B.state]; rfl
    have hsz : scr.slots.size = xs.length := by rw [← Array.length_toList, hlist, List.length_map]
    have hval : ∀ j : Nat, j < xs.length → scr.slots[j]? = some (.int (xs.getD j 0)) := fun j hj => by
      rw [← Array.getElem?_toList, hlist]
      simp [hj]
    have hbl : b < s.heap.size := (Array.getElem?_eq_some_iff.mp hcb).1
    have hX : va_X b xs.length (fun j => xs.getD j 0) s s.heap := ⟨scr, hcb, hof, hkn, hsz, hval⟩
    have K : W p l e room_1 s m #[Value.ref b] below meth c s₁.heap [] 0 0 (lw_Z below #[Value.ref b] s) (entryFrame m ([Value.ref b] : List Value).toArray 4) := by
      rw [hh0]
      exact whole_start l hflags hbd ⟨B.exec, B.bytes, B.returns, hml, hown, hts, hX, hbl, B.notSynchronized, hgv⟩
    obtain ⟨t, a1, o, b1, b2, b3⟩ := K s₁ rfl X₀
    exact ⟨t, o, a1, b1, b2, b3⟩
theorem lw_pre_spec {args : Array Value} {s : State} (h : (Jvm.Cond.and given_1 narrow_1).before args s = true) (hr : rest_1_c.before args s = true) : ∃ (b : Addr) (xs : List Int32), lw_P b xs args s := by
  have hs := flat_of_before _ h
  have hq := flat_of_before _ hr
  have hc : (Cond.count 1).before args s = true := hs _ (by decide +kernel)
  have harr : (Cond.arrayOf (.arg 0) .int).before args s = true := hs _ (by decide +kernel)
  have hle : (Cond.le (.length (.arg 0)) (.int 3584)).before args s = true := hs _ (by decide +kernel)
  have hlen : (Cond.isInt (.length (.arg 0))).before args s = true := hq _ (by decide +kernel)
  have hall : (Cond.all (.arg 0) (.isInt (.elem (.arg 0) (.index 0)))).before args s = true := hq _ (by decide +kernel)
  obtain ⟨b, xs, hb, hx⟩ := State.ints_of_pre rfl harr hlen hall
  have hsm : xs.length < 2 ^ 31 := hx.choose_spec.2.2.2
  have hev : (Term.length (.arg 0)).eval args s none [] s = some (.int xs.length.toInt32) := hx.length_eval hb
  have hv := Cond.le_ints hev (show (Term.int 3584).eval args s none [] s = some (.int 3584) from rfl)
  have hd : xs.length.toInt32 ≤ 3584 := by
    simpa [Cond.before, Cond.holds, hv] using hle
  have hN : xs.length ≤ 3584 := (Int32.ofNat_le_ofNat hsm (by decide)).mp (show Int32.ofNat xs.length ≤ Int32.ofNat 3584 from hd)
  exact ⟨b, xs, Cond.one_arg hc (show args[0]? = some (.ref b) from hb), hx, hN, h⟩
theorem lw_comes (l : Launch) (hflags : l.flags = flags0) : Comes l x (Jvm.Cond.code x code maxLocals ret :: tables_1) room_1 (fun tb e args s => Calls_1 tb e args s ∧ rest_1 tb e args s ∧ Pre_1 tb e args s)
    (fun _ _ args s o t => lw_Q args s o t) := by
  intro p e ha hc hk s m args below hf hfit hheap happ hpre
  obtain ⟨b, xs, hP⟩ := lw_pre_spec hpre.2.2 hpre.2.1
  obtain ⟨k, o, h1, h2, h3, hQ⟩ := lw_walk l hflags b xs p e ha hc hk s m args below hf ((Spec.applies_iff_loose hf).mp happ).1 hP trivial
  exact ⟨k, o, h1, h2, h3, hQ⟩
theorem lw_frame {s t : State} {o : Outcome} {args : Array Value} (h : Framed s o t [] 600000 7302250) :
    Framed s o t (fieldLocs frame_1_writes args s ++ arrayLocs frame_1_arrays args s ++ staticLocs frame_1_statics s) 600000 7302250 := h
theorem lw_limb (L : Cond) (hL : ∀ (args : Array Value) (s t : State), L.after args s (.returned (some (.int 1))) t = true) :
    ArmFor flags0 classFile x code maxLocals ret World_1 tables_1 room_1 Calls_1 rest_1 Pre_1
      (fun tb e a s o t => postC L tb e a s o t ∧ Framed s o t (fieldLocs frame_1_writes a s ++ arrayLocs frame_1_arrays a s ++ staticLocs frame_1_statics s) 600000 7302250) := by
  intro l hflags _ _ p e ha hc hk s m args below hf hfit hheap happ hpre
  obtain ⟨k, o, h1, h2, h3, rfl, hF⟩ := lw_comes l hflags p e ha hc hk s m args below hf hfit hheap happ hpre
  exact ⟨k, _, h1, h2, h3, hL args s _, lw_frame hF⟩
theorem i_vc : Claimed_1_1 ∧ Claimed_1_2 := ⟨lw_limb limb_1_1 (fun args s t => by simp [limb_1_1, Cond.after, Cond.holds, Cond.value]), lw_limb limb_1_2 (fun args s t => Cond.after_iff.mpr (by
  first | (rw [show limb_1_2 = Cond.eq .result (.int 1) from rfl, Cond.eq_ints (x := 1) (y := 1) rfl rfl]; simp; done) | (simp [limb_1_2, Cond.value, Term.eval]; done)))⟩
