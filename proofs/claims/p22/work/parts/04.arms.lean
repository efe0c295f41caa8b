/-! ===== THE PURE MACHINE IS SOUND: what it reaches, the machine reaches ===== -/
def rl (adr : Nat → Nat) (v : PV) : Value := match v with
  | .inl a => .int (Int32.ofInt a)
  | .inr (.inl a) => .long (Int64.ofInt a)
  | .inr (.inr o) => .ref (adr o)
def rf (adr : Nat → Nat) (r : Nat) : Option Nat := if r = 0 then none else some (adr r)
def fv (adr : Nat → Nat) (z : Nat → Int) (w : Nat → Nat) (ci k : Nat) : Value := bif fkR ci k then va_rf (rf adr (w k)) else .int (Int32.ofInt (z k))
def celF (cA : Nat → ClassId) (adr : Nat → Nat) (z : Nat → Int) (w : Nat → Nat) (o : Nat) : va_E := match (fK o).1 with
  | 0 => .inl (cA 0, (fK o).2, .inl (fun j => Int32.ofInt (z j)))
  | 1 => .inl (cA 1, (fK o).2, .inr (.inl (fun j => Int64.ofInt (z j))))
  | 2 => .inl (cA 2, (fK o).2, .inl (fun j => Int32.ofInt (z j)))
  | 3 => .inl (cA 3, (fK o).2, .inr (.inr (.inr (.inr (fun j => rf adr (w j))))))
  | t => .inr (t - 10, (List.range (fN (t - 10))).map (fv adr z w (t - 10)))
def cel (cA : Nat → ClassId) (adr : Nat → Nat) (σ : St) (o : Nat) : va_E := celF cA adr (σ.2.1 o) (σ.2.2 o) o
theorem cel_i {cA : Nat → ClassId} {adr : Nat → Nat} {σ : St} {o : Nat} (h : (fK o).1 = 0) : cel cA adr σ o = .inl (cA 0, (fK o).2, .inl (fun j => Int32.ofInt (σ.2.1 o j))) := by unfold cel celF; rw [h]; rfl
theorem cel_l {cA : Nat → ClassId} {adr : Nat → Nat} {σ : St} {o : Nat} (h : (fK o).1 = 1) : cel cA adr σ o = .inl (cA 1, (fK o).2, .inr (.inl (fun j => Int64.ofInt (σ.2.1 o j)))) := by unfold cel celF; rw [h]; rfl
theorem cel_z {cA : Nat → ClassId} {adr : Nat → Nat} {σ : St} {o : Nat} (h : (fK o).1 = 2) : cel cA adr σ o = .inl (cA 2, (fK o).2, .inl (fun j => Int32.ofInt (σ.2.1 o j))) := by unfold cel celF; rw [h]; rfl
theorem cel_r {cA : Nat → ClassId} {adr : Nat → Nat} {σ : St} {o : Nat} (h : (fK o).1 = 3) : cel cA adr σ o = .inl (cA 3, (fK o).2, .inr (.inr (.inr (.inr (fun j => rf adr (σ.2.2 o j)))))) := by unfold cel celF; rw [h]; rfl
theorem cel_o {cA : Nat → ClassId} {adr : Nat → Nat} {σ : St} {o ci : Nat} (h : (fK o).1 = 10 + ci) : cel cA adr σ o = .inr (ci, (List.range (fN ci)).map (fv adr (σ.2.1 o) (σ.2.2 o) ci)) := by
  unfold cel celF; rw [h]
  split
  · omega
  · omega
  · omega
  · omega
  · rw [show 10 + ci - 10 = ci by omega]
def wld (cA : Nat → ClassId) (adr : Nat → Nat) (σ : St) : va_W := (List.range σ.1).map (fun k => (adr (k + 1), cel cA adr σ (k + 1)))
theorem wld_len {cA : Nat → ClassId} {adr : Nat → Nat} {σ : St} : (wld cA adr σ).length = σ.1 := by simp [wld]
theorem wld_get {cA : Nat → ClassId} {adr : Nat → Nat} {σ : St} (k : Nat) : (wld cA adr σ)[k]? = if k < σ.1 then some (adr (k + 1), cel cA adr σ (k + 1)) else none := by
  unfold wld
  rw [List.getElem?_map]
  by_cases hk : k < σ.1
  · rw [if_pos hk, List.getElem?_range hk]; rfl
  · rw [if_neg hk, List.getElem?_eq_none (by simpa using hk)]; rfl
theorem wld_at {cA : Nat → ClassId} {adr : Nat → Nat} {σ : St} {o : Nat} (h0 : 0 < o) (h : o ≤ σ.1) : (wld cA adr σ)[o - 1]? = some (adr o, cel cA adr σ o) := by
  rw [wld_get, if_pos (by omega), show o - 1 + 1 = o by omega]
theorem wld_set {cA : Nat → ClassId} {adr : Nat → Nat} {σ σ' : St} {o : Nat} (h0 : 0 < o) (hn : σ'.1 = σ.1) (h : ∀ q, q ≠ o → cel cA adr σ' q = cel cA adr σ q) : wld cA adr σ' = (wld cA adr σ).set (o - 1) (adr o, cel cA adr σ' o) := by
  apply List.ext_getElem?
  intro k
  rw [List.getElem?_set, wld_get, wld_get, hn, wld_len]
  by_cases hk : o - 1 = k
  · subst hk
    rw [if_pos rfl]
    by_cases hj : o - 1 < σ.1
    · rw [if_pos hj, if_pos hj, show o - 1 + 1 = o by omega]
    · rw [if_neg hj, if_neg hj]
  · rw [if_neg hk, h (k + 1) (by omega)]
abbrev tysOf (cA : Nat → ClassId) : List (ClassId × FieldType) := [(cA 0, .int), (cA 1, .long), (cA 2, .boolean), (cA 3, .object RX7)]
/-- numbers in their range, references to what is there -/
def WF (σ : St) : Prop := (∀ o k, ((fK o).1 = 1 → okL (σ.2.1 o k)) ∧ ((fK o).1 ≠ 1 → okI (σ.2.1 o k))) ∧ ∀ o k, σ.2.2 o k ≤ σ.1
def Nest (U : State) : Prop := (∀ q ∈ fNest, va_Nw (.methodLinkNest q.1 q.2.1 q.2.2.1 q.2.2.2) U) ∧ va_AO RX7 U
def GW (p : Program) (l : Launch) (e : Env) (R : Room) (s : State) (m : MethodId) (args : Array Value) (below : List Frame) (meth : Method) (c : Code) (D : va_G) (cA : Nat → ClassId) (nL : Nat) (A : Nat → Prop) (n0 : Nat) (adr0 : Nat → Nat) (lim : Nat) (Qm : State → Prop) : GT := fun pc L st σ =>
  ∀ (adr : Nat → Nat) (H : Heap) (locs : List Jvm.Loc) (ls : Array Slot) (cells slots : Nat), WF σ → (∀ v ∈ st, okV σ.1 v) → (∀ q ∈ L, okV σ.1 q.2) → lv_has ls nL (L.map fun q => (q.1, rl adr q.2)) → va_P D vwCl (wld cA adr σ) H → va_D A (wld cA adr σ) → va_S A s.heap H locs → n0 ≤ σ.1 → σ.1 ≤ lim → (∀ o, o ≤ n0 → adr o = adr0 o) → cells + n0 = σ.1 → slots + SL n0 = SL σ.1 →
    W p l e R s m args below meth c H locs cells slots Qm (F0 m pc ls (st.map (rl adr)))
abbrev Hr (p : Program) (R : Room) (s : State) (m : MethodId) (args : Array Value) (c : Code) (D : va_G) (cA : Nat → ClassId) (cc : ByteArray) (own : String) (nL : Nat) (A : Nat → Prop) (n0 lim : Nat) : Prop :=
  p.tables.exec = Jvm.exec ∧ c.code = cc ∧ c.maxLocals = nL ∧ s.vm.findClass own = some m.cls ∧ (∀ w ∈ gtbl, w.before args s = true) ∧ va_K D vwCl (tysOf cA) s ∧ Nest s ∧ (∀ q, s.heap.size ≤ q → A q) ∧ lim ≤ n0 + R.cells ∧ SL lim ≤ SL n0 + R.slots
theorem lk_mem {L : LoT} {i : Nat} {v : PV} (h : lk L i = some v) : (i, v) ∈ L := by
  induction L with
  | nil => simp [lk] at h
  | cons q t ih =>
    obtain ⟨j, w⟩ := q
    unfold lk at h
    cases hj : Nat.beq j i with
    | true =>
      rw [hj] at h
      have h1 : j = i := Nat.eq_of_beq_eq_true hj
      cases h
      subst h1
      exact List.mem_cons_self
    | false =>
      rw [hj] at h
      exact List.mem_cons_of_mem _ (ih h)
theorem lk_has {ls : Array Slot} {nL i : Nat} {adr : Nat → Nat} {L : LoT} {v : PV} (hl : lv_has ls nL (L.map fun q => (q.1, rl adr q.2))) (h : lk L i = some v) : ls[i]? = some (.val (rl adr v)) := hl.2.2 (i, rl adr v) (List.mem_map.mpr ⟨(i, v), lk_mem h, rfl⟩)
theorem rl_cat (adr : Nat → Nat) (v : PV) : (rl adr v).category = pcat v := by
  rcases v with a | a | a <;> rfl
theorem beq_b (a b : Nat) : (a == b) = Nat.beq a b := by
  cases h : Nat.beq a b with
  | true => rw [Nat.eq_of_beq_eq_true h]; simp
  | false => simpa using Nat.ne_of_beq_eq_false h
theorem st1_map (adr : Nat → Nat) (L : LoT) (i : Nat) (v : PV) : (i, rl adr v) :: (L.map fun q => (q.1, rl adr q.2)).filter (fun q => !(q.1 == i) && !(q.1 + 1 == i && q.2.category == 2)) = (st1 L i v).map fun q => (q.1, rl adr q.2) := by
  unfold st1
  rw [List.map_cons, List.filter_map]
  congr 2
  apply List.filter_congr
  intro q _
  simp only [Function.comp, rl_cat, beq_b, kp1]
theorem st2_map (adr : Nat → Nat) (L : LoT) (i : Nat) (v : PV) : (i, rl adr v) :: (L.map fun q => (q.1, rl adr q.2)).filter (fun q => !(q.1 == i) && (!(q.1 == i + 1) && !(q.1 + 1 == i && q.2.category == 2))) = (st2 L i v).map fun q => (q.1, rl adr q.2) := by
  unfold st2
  rw [List.map_cons, List.filter_map]
  congr 2
  apply List.filter_congr
  intro q _
  simp only [Function.comp, rl_cat, beq_b, kp2]
theorem st1_ok {n : Nat} {L : LoT} {i : Nat} {v : PV} (h : ∀ q ∈ L, okV n q.2) (hv : okV n v) : ∀ q ∈ st1 L i v, okV n q.2 := by
  intro q hq
  rcases List.mem_cons.mp hq with rfl | hq
  · exact hv
  · exact h q (List.mem_filter.mp hq).1
theorem st2_ok {n : Nat} {L : LoT} {i : Nat} {v : PV} (h : ∀ q ∈ L, okV n q.2) (hv : okV n v) : ∀ q ∈ st2 L i v, okV n q.2 := by
  intro q hq
  rcases List.mem_cons.mp hq with rfl | hq
  · exact hv
  · exact h q (List.mem_filter.mp hq).1
theorem ok_w32 (a : Int) : okI (w32 a) := by unfold okI w32; omega
theorem ok_w64 (a : Int) : okL (w64 a) := by unfold okL w64; omega
theorem ok_i32 (x : Int32) : okI x.toInt := by
  have h1 := x.toInt_lt
  have h2 := x.le_toInt
  unfold okI; omega
theorem ok_i64 (x : Int64) : okL x.toInt := by
  have h1 := x.toInt_lt
  have h2 := x.le_toInt
  unfold okL; omega
theorem i32_w (a : Int) : Int32.ofInt (w32 a) = Int32.ofInt a := by
  rw [Int32.ofInt_eq_iff_bmod_eq_toInt, Int32.toInt_ofInt]
  unfold w32
  rw [show Int32.size = 2 ^ 32 from rfl]
  simp only [Int.bmod_def]
  omega
theorem i64_w (a : Int) : Int64.ofInt (w64 a) = Int64.ofInt a := by
  rw [Int64.ofInt_eq_iff_bmod_eq_toInt, Int64.toInt_ofInt]
  unfold w64
  rw [show Int64.size = 2 ^ 64 from rfl]
  simp only [Int.bmod_def]
  omega
theorem i32_t {a : Int} (h : okI a) : (Int32.ofInt a).toInt = a := Int32.toInt_ofInt_of_le (by have := h.1; omega) (by have := h.2; omega)
theorem i64_t {a : Int} (h : okL a) : (Int64.ofInt a).toInt = a := Int64.toInt_ofInt_of_le (by have := h.1; omega) (by have := h.2; omega)
theorem i32_eq {a b : Int} (ha : okI a) (hb : okI b) : Int32.ofInt a = Int32.ofInt b ↔ a = b := by
  rw [← Int32.toInt_inj, i32_t ha, i32_t hb]
theorem i32_lt {a b : Int} (ha : okI a) (hb : okI b) : Int32.ofInt a < Int32.ofInt b ↔ a < b := by
  rw [Int32.lt_iff_toInt_lt, i32_t ha, i32_t hb]
theorem i32_le {a b : Int} (ha : okI a) (hb : okI b) : Int32.ofInt a ≤ Int32.ofInt b ↔ a ≤ b := by
  rw [Int32.le_iff_toInt_le, i32_t ha, i32_t hb]
theorem ok_0 : okI 0 := ⟨by decide, by decide⟩
theorem tc {n : Nat} {v : PV} {st : List PV} (h : ∀ w ∈ v :: st, okV n w) : okV n v ∧ ∀ w ∈ st, okV n w := ⟨h v List.mem_cons_self, fun w hw => h w (List.mem_cons_of_mem _ hw)⟩
theorem ct {n : Nat} {v : PV} {st : List PV} (hv : okV n v) (h : ∀ w ∈ st, okV n w) : ∀ w ∈ v :: st, okV n w := fun w hw => (List.mem_cons.mp hw).elim (fun q => q ▸ hv) (h w)
theorem i8_32 {n : Int} (h : -128 ≤ n ∧ n ≤ 127) : (Int8.ofInt n).toInt32 = Int32.ofInt n := by
  rw [← Int32.toInt_inj, Int8.toInt_toInt32, Int8.toInt_ofInt_of_le (by omega) (by omega), i32_t ⟨by omega, by omega⟩]
theorem i16_32 {n : Int} (h : -32768 ≤ n ∧ n ≤ 32767) : (Int16.ofInt n).toInt32 = Int32.ofInt n := by
  rw [← Int32.toInt_inj, Int16.toInt_toInt32, Int16.toInt_ofInt_of_le (by omega) (by omega), i32_t ⟨by omega, by omega⟩]
theorem i64_n (n : Fin 2) : Int64.ofNat (n : Nat) = Int64.ofInt (n.val : Int) := by
  rw [Int64.ofInt_eq_ofNat]
theorem i32_t_n0 {b : Int} (h : okI b) (hne : b ≠ 0) : ¬ Int32.ofInt b = 0 := fun q => hne ((i32_eq h ok_0).mp (q.trans (by decide)))
theorem i64_t_n0 {b : Int} (h : okL b) (hne : b ≠ 0) : ¬ Int64.ofInt b = 0 := fun q => hne (by
  have := congrArg Int64.toInt q
  rw [i64_t h] at this
  simpa using this)
theorem i32_dv {a b : Int} (ha : okI a) (hb : okI b) : Int32.ofInt (w32 (Int.tdiv a b)) = Int32.ofInt a / Int32.ofInt b := by
  rw [i32_w, ← Int32.toInt_inj, Int32.toInt_div, i32_t ha, i32_t hb, Int32.toInt_ofInt]
theorem i64_dv {a b : Int} (ha : okL a) (hb : okL b) : Int64.ofInt (w64 (Int.tdiv a b)) = Int64.ofInt a / Int64.ofInt b := by
  rw [i64_w, ← Int64.toInt_inj, Int64.toInt_div, i64_t ha, i64_t hb, Int64.toInt_ofInt]
theorem ok_tm {a b : Int} (ha : okI a) (hb : okI b) (hne : b ≠ 0) : okI (Int.tmod a b) := by
  have h := ok_i32 (Int32.ofInt a % Int32.ofInt b)
  rwa [Int32.toInt_mod, i32_t ha, i32_t hb] at h
theorem i32_rm {a b : Int} (ha : okI a) (hb : okI b) : Int32.ofInt (Int.tmod a b) = Int32.ofInt a - Int32.ofInt a / Int32.ofInt b * Int32.ofInt b := by
  rw [← i32_dv ha hb, i32_w, ← Int32.ofInt_mul, ← Int32.ofInt_sub, Int.tmod_def, Int.mul_comm]
theorem ok_il {a : Int} (h : okI a) : okL a := ⟨by have := h.1; omega, by have := h.2; omega⟩
theorem i32_l {a : Int} (h : okI a) : (Int32.ofInt a).toInt64 = Int64.ofInt a := by
  rw [← Int64.toInt_inj, Int32.toInt_toInt64, i32_t h, i64_t (ok_il h)]
theorem i64_i {a : Int} (h : okL a) : (Int64.ofInt a).toInt32 = Int32.ofInt (w32 a) := by
  rw [i32_w, ← Int32.ofInt_int64ToInt, i64_t h]
theorem ok_cmp3 (a b : Int) : okI (cmp3 a b) := by
  unfold cmp3 okI; split <;> (try split) <;> omega
theorem cmp3_lg {a b : Int} (ha : okL a) (hb : okL b) : Int32.ofInt (cmp3 a b) = lg_cmp (Int64.ofInt a) (Int64.ofInt b) := by
  unfold cmp3 lg_cmp
  simp only [gt_iff_lt, Int64.lt_iff_toInt_lt, ← Int64.toInt_inj, i64_t ha, i64_t hb]
  split
  · decide
  · split <;> decide
section ARMS
variable {p : Program} {l : Launch} {e : Env} {R : Room} {s : State} {m : MethodId} {args : Array Value} {below : List Frame} {meth : Method} {c : Code} {D : va_G} {cA : Nat → ClassId} {nL : Nat} {A : Nat → Prop} {n0 : Nat} {adr0 : Nat → Nat} {lim : Nat} {Qm : State → Prop} {cc : ByteArray} {own : String}
variable {pc : Nat} {L : LoT} {r : List PV} {σ : St}
theorem gw_iconst (C : Hr p R s m args c D cA cc own nL A n0 lim) {n : Int} (hd : decode cc pc = .ok (.iconst n, 1)) (hn : okI n) (h : GW p l e R s m args below meth c D cA nL A n0 adr0 lim Qm (pc + 1) L (vi n :: r) σ) : GW p l e R s m args below meth c D cA nL A n0 adr0 lim Qm pc L (r) σ := by
  intro adr H locs ls cells slots hwf hst hlo hl hP hD hS hn0 hlm hadr hce hsl
  obtain ⟨hx, hb, hml, hown, hts, hK, hN, hA, hlc, hls⟩ := C
  exact lv_iconst hx hb hd rfl (h adr H locs ls cells slots hwf (ct hn hst) hlo hl hP hD hS hn0 hlm hadr hce hsl)
theorem gw_bipush (C : Hr p R s m args c D cA cc own nL A n0 lim) {n : Int} (hd : decode cc pc = .ok (.bipush n, 2)) (hn : -128 ≤ n ∧ n ≤ 127) (h : GW p l e R s m args below meth c D cA nL A n0 adr0 lim Qm (pc + 2) L (vi n :: r) σ) : GW p l e R s m args below meth c D cA nL A n0 adr0 lim Qm pc L (r) σ := by
  intro adr H locs ls cells slots hwf hst hlo hl hP hD hS hn0 hlm hadr hce hsl
  obtain ⟨hx, hb, hml, hown, hts, hK, hN, hA, hlc, hls⟩ := C
  exact lv_bipush hx hb hd (i8_32 hn) (h adr H locs ls cells slots hwf (ct (show okI n from ⟨by omega, by omega⟩) hst) hlo hl hP hD hS hn0 hlm hadr hce hsl)
theorem gw_sipush (C : Hr p R s m args c D cA cc own nL A n0 lim) {n : Int} (hd : decode cc pc = .ok (.sipush n, 3)) (hn : -32768 ≤ n ∧ n ≤ 32767) (h : GW p l e R s m args below meth c D cA nL A n0 adr0 lim Qm (pc + 3) L (vi n :: r) σ) : GW p l e R s m args below meth c D cA nL A n0 adr0 lim Qm pc L (r) σ := by
  intro adr H locs ls cells slots hwf hst hlo hl hP hD hS hn0 hlm hadr hce hsl
  obtain ⟨hx, hb, hml, hown, hts, hK, hN, hA, hlc, hls⟩ := C
  exact lv_sipush hx hb hd (i16_32 hn) (h adr H locs ls cells slots hwf (ct (show okI n from ⟨by omega, by omega⟩) hst) hlo hl hP hD hS hn0 hlm hadr hce hsl)
theorem gw_lconst (C : Hr p R s m args c D cA cc own nL A n0 lim) {n : Fin 2} (hd : decode cc pc = .ok (.lconst n, 1)) (h : GW p l e R s m args below meth c D cA nL A n0 adr0 lim Qm (pc + 1) L (vl n.val :: r) σ) : GW p l e R s m args below meth c D cA nL A n0 adr0 lim Qm pc L (r) σ := by
  intro adr H locs ls cells slots hwf hst hlo hl hP hD hS hn0 hlm hadr hce hsl
  obtain ⟨hx, hb, hml, hown, hts, hK, hN, hA, hlc, hls⟩ := C
  exact lv_lconst hx hb hd (i64_n n) (h adr H locs ls cells slots hwf (ct (show okL (n.val : Int) from ⟨by omega, by have := n.isLt; omega⟩) hst) hlo hl hP hD hS hn0 hlm hadr hce hsl)
theorem gw_ldc (C : Hr p R s m args c D cA cc own nL A n0 lim) {n : Nat} {a : Int} (hd : decode cc pc = .ok (.ldc n, 2)) (hw : okI a ∧ Cond.constant own n (Int32.ofInt a) ∈ gtbl) (h : GW p l e R s m args below meth c D cA nL A n0 adr0 lim Qm (pc + 2) L (vi a :: r) σ) : GW p l e R s m args below meth c D cA nL A n0 adr0 lim Qm pc L (r) σ := by
  intro adr H locs ls cells slots hwf hst hlo hl hP hD hS hn0 hlm hadr hce hsl
  obtain ⟨hx, hb, hml, hown, hts, hK, hN, hA, hlc, hls⟩ := C
  exact lv_ldc hx hb hown (hts _ hw.2) hd (h adr H locs ls cells slots hwf (ct hw.1 hst) hlo hl hP hD hS hn0 hlm hadr hce hsl)
theorem gw_ldc_w (C : Hr p R s m args c D cA cc own nL A n0 lim) {n : Nat} {a : Int} (hd : decode cc pc = .ok (.ldc_w n, 3)) (hw : okI a ∧ Cond.constant own n (Int32.ofInt a) ∈ gtbl) (h : GW p l e R s m args below meth c D cA nL A n0 adr0 lim Qm (pc + 3) L (vi a :: r) σ) : GW p l e R s m args below meth c D cA nL A n0 adr0 lim Qm pc L (r) σ := by
  intro adr H locs ls cells slots hwf hst hlo hl hP hD hS hn0 hlm hadr hce hsl
  obtain ⟨hx, hb, hml, hown, hts, hK, hN, hA, hlc, hls⟩ := C
  exact lv_ldcw hx hb hown (hts _ hw.2) hd (h adr H locs ls cells slots hwf (ct hw.1 hst) hlo hl hP hD hS hn0 hlm hadr hce hsl)
theorem gw_ldc2_w (C : Hr p R s m args c D cA cc own nL A n0 lim) {n : Nat} {a : Int} (hd : decode cc pc = .ok (.ldc2_w n, 3)) (hw : okL a ∧ Cond.constantLong own n (Int64.ofInt a) ∈ gtbl) (h : GW p l e R s m args below meth c D cA nL A n0 adr0 lim Qm (pc + 3) L (vl a :: r) σ) : GW p l e R s m args below meth c D cA nL A n0 adr0 lim Qm pc L (r) σ := by
  intro adr H locs ls cells slots hwf hst hlo hl hP hD hS hn0 hlm hadr hce hsl
  obtain ⟨hx, hb, hml, hown, hts, hK, hN, hA, hlc, hls⟩ := C
  exact lv_ldc2 hx hb hown (hts _ hw.2) hd (h adr H locs ls cells slots hwf (ct hw.1 hst) hlo hl hP hD hS hn0 hlm hadr hce hsl)
theorem gw_iload (C : Hr p R s m args c D cA cc own nL A n0 lim) {j : Nat} {a : Int} (hd : decode cc pc = .ok (.iload j, 2)) (hj : lk L j = some (vi a)) (h : GW p l e R s m args below meth c D cA nL A n0 adr0 lim Qm (pc + 2) L (vi a :: r) σ) : GW p l e R s m args below meth c D cA nL A n0 adr0 lim Qm pc L (r) σ := by
  intro adr H locs ls cells slots hwf hst hlo hl hP hD hS hn0 hlm hadr hce hsl
  obtain ⟨hx, hb, hml, hown, hts, hK, hN, hA, hlc, hls⟩ := C
  exact lv_iload hx hb hd (lk_has hl hj) (h adr H locs ls cells slots hwf (ct (hlo _ (lk_mem hj)) hst) hlo hl hP hD hS hn0 hlm hadr hce hsl)
theorem gw_iload_n (C : Hr p R s m args c D cA cc own nL A n0 lim) {j : Fin 4} {a : Int} (hd : decode cc pc = .ok (.iload_n j, 1)) (hj : lk L j.val = some (vi a)) (h : GW p l e R s m args below meth c D cA nL A n0 adr0 lim Qm (pc + 1) L (vi a :: r) σ) : GW p l e R s m args below meth c D cA nL A n0 adr0 lim Qm pc L (r) σ := by
  intro adr H locs ls cells slots hwf hst hlo hl hP hD hS hn0 hlm hadr hce hsl
  obtain ⟨hx, hb, hml, hown, hts, hK, hN, hA, hlc, hls⟩ := C
  exact lv_iload_n hx hb hd rfl (lk_has hl hj) (h adr H locs ls cells slots hwf (ct (hlo _ (lk_mem hj)) hst) hlo hl hP hD hS hn0 hlm hadr hce hsl)
theorem gw_istore (C : Hr p R s m args c D cA cc own nL A n0 lim) {j : Nat} {a : Int} (hd : decode cc pc = .ok (.istore j, 2)) (hj : j < nL) (h : GW p l e R s m args below meth c D cA nL A n0 adr0 lim Qm (pc + 2) (st1 L j (vi a)) r σ) : GW p l e R s m args below meth c D cA nL A n0 adr0 lim Qm pc L (vi a :: r) σ := by
  intro adr H locs ls cells slots hwf hst hlo hl hP hD hS hn0 hlm hadr hce hsl
  obtain ⟨hx, hb, hml, hown, hts, hK, hN, hA, hlc, hls⟩ := C
  exact lv_istore hx hb hd hl hj (st1_map adr L j (vi a)) (fun ls' hl' => h adr H locs ls' cells slots hwf (tc hst).2 (st1_ok hlo (tc hst).1) hl' hP hD hS hn0 hlm hadr hce hsl)
theorem gw_istore_n (C : Hr p R s m args c D cA cc own nL A n0 lim) {j : Fin 4} {a : Int} (hd : decode cc pc = .ok (.istore_n j, 1)) (hj : j.val < nL) (h : GW p l e R s m args below meth c D cA nL A n0 adr0 lim Qm (pc + 1) (st1 L j.val (vi a)) r σ) : GW p l e R s m args below meth c D cA nL A n0 adr0 lim Qm pc L (vi a :: r) σ := by
  intro adr H locs ls cells slots hwf hst hlo hl hP hD hS hn0 hlm hadr hce hsl
  obtain ⟨hx, hb, hml, hown, hts, hK, hN, hA, hlc, hls⟩ := C
  exact lv_istore_n hx hb hd rfl hl hj (st1_map adr L j.val (vi a)) (fun ls' hl' => h adr H locs ls' cells slots hwf (tc hst).2 (st1_ok hlo (tc hst).1) hl' hP hD hS hn0 hlm hadr hce hsl)
theorem gw_lload (C : Hr p R s m args c D cA cc own nL A n0 lim) {j : Nat} {a : Int} (hd : decode cc pc = .ok (.lload j, 2)) (hj : lk L j = some (vl a)) (h : GW p l e R s m args below meth c D cA nL A n0 adr0 lim Qm (pc + 2) L (vl a :: r) σ) : GW p l e R s m args below meth c D cA nL A n0 adr0 lim Qm pc L (r) σ := by
  intro adr H locs ls cells slots hwf hst hlo hl hP hD hS hn0 hlm hadr hce hsl
  obtain ⟨hx, hb, hml, hown, hts, hK, hN, hA, hlc, hls⟩ := C
  exact lv_lload hx hb hd (lk_has hl hj) (h adr H locs ls cells slots hwf (ct (hlo _ (lk_mem hj)) hst) hlo hl hP hD hS hn0 hlm hadr hce hsl)
theorem gw_lload_n (C : Hr p R s m args c D cA cc own nL A n0 lim) {j : Fin 4} {a : Int} (hd : decode cc pc = .ok (.lload_n j, 1)) (hj : lk L j.val = some (vl a)) (h : GW p l e R s m args below meth c D cA nL A n0 adr0 lim Qm (pc + 1) L (vl a :: r) σ) : GW p l e R s m args below meth c D cA nL A n0 adr0 lim Qm pc L (r) σ := by
  intro adr H locs ls cells slots hwf hst hlo hl hP hD hS hn0 hlm hadr hce hsl
  obtain ⟨hx, hb, hml, hown, hts, hK, hN, hA, hlc, hls⟩ := C
  exact lv_lload_n hx hb hd rfl (lk_has hl hj) (h adr H locs ls cells slots hwf (ct (hlo _ (lk_mem hj)) hst) hlo hl hP hD hS hn0 hlm hadr hce hsl)
theorem gw_lstore (C : Hr p R s m args c D cA cc own nL A n0 lim) {j : Nat} {a : Int} (hd : decode cc pc = .ok (.lstore j, 2)) (hj : j + 1 < nL) (h : GW p l e R s m args below meth c D cA nL A n0 adr0 lim Qm (pc + 2) (st2 L j (vl a)) r σ) : GW p l e R s m args below meth c D cA nL A n0 adr0 lim Qm pc L (vl a :: r) σ := by
  intro adr H locs ls cells slots hwf hst hlo hl hP hD hS hn0 hlm hadr hce hsl
  obtain ⟨hx, hb, hml, hown, hts, hK, hN, hA, hlc, hls⟩ := C
  exact lv_lstore hx hb hd hl hj (st2_map adr L j (vl a)) (fun ls' hl' => h adr H locs ls' cells slots hwf (tc hst).2 (st2_ok hlo (tc hst).1) hl' hP hD hS hn0 hlm hadr hce hsl)
theorem gw_lstore_n (C : Hr p R s m args c D cA cc own nL A n0 lim) {j : Fin 4} {a : Int} (hd : decode cc pc = .ok (.lstore_n j, 1)) (hj : j.val + 1 < nL) (h : GW p l e R s m args below meth c D cA nL A n0 adr0 lim Qm (pc + 1) (st2 L j.val (vl a)) r σ) : GW p l e R s m args below meth c D cA nL A n0 adr0 lim Qm pc L (vl a :: r) σ := by
  intro adr H locs ls cells slots hwf hst hlo hl hP hD hS hn0 hlm hadr hce hsl
  obtain ⟨hx, hb, hml, hown, hts, hK, hN, hA, hlc, hls⟩ := C
  exact lv_lstore_n hx hb hd rfl hl hj (st2_map adr L j.val (vl a)) (fun ls' hl' => h adr H locs ls' cells slots hwf (tc hst).2 (st2_ok hlo (tc hst).1) hl' hP hD hS hn0 hlm hadr hce hsl)
theorem gw_aload (C : Hr p R s m args c D cA cc own nL A n0 lim) {j : Nat} {a : Nat} (hd : decode cc pc = .ok (.aload j, 2)) (hj : lk L j = some (vr a)) (h : GW p l e R s m args below meth c D cA nL A n0 adr0 lim Qm (pc + 2) L (vr a :: r) σ) : GW p l e R s m args below meth c D cA nL A n0 adr0 lim Qm pc L (r) σ := by
  intro adr H locs ls cells slots hwf hst hlo hl hP hD hS hn0 hlm hadr hce hsl
  obtain ⟨hx, hb, hml, hown, hts, hK, hN, hA, hlc, hls⟩ := C
  exact lv_aload hx hb hd (lk_has hl hj) (h adr H locs ls cells slots hwf (ct (hlo _ (lk_mem hj)) hst) hlo hl hP hD hS hn0 hlm hadr hce hsl)
theorem gw_aload_n (C : Hr p R s m args c D cA cc own nL A n0 lim) {j : Fin 4} {a : Nat} (hd : decode cc pc = .ok (.aload_n j, 1)) (hj : lk L j.val = some (vr a)) (h : GW p l e R s m args below meth c D cA nL A n0 adr0 lim Qm (pc + 1) L (vr a :: r) σ) : GW p l e R s m args below meth c D cA nL A n0 adr0 lim Qm pc L (r) σ := by
  intro adr H locs ls cells slots hwf hst hlo hl hP hD hS hn0 hlm hadr hce hsl
  obtain ⟨hx, hb, hml, hown, hts, hK, hN, hA, hlc, hls⟩ := C
  exact lv_aload_n hx hb hd rfl (lk_has hl hj) (h adr H locs ls cells slots hwf (ct (hlo _ (lk_mem hj)) hst) hlo hl hP hD hS hn0 hlm hadr hce hsl)
theorem gw_astore (C : Hr p R s m args c D cA cc own nL A n0 lim) {j : Nat} {a : Nat} (hd : decode cc pc = .ok (.astore j, 2)) (hj : j < nL) (h : GW p l e R s m args below meth c D cA nL A n0 adr0 lim Qm (pc + 2) (st1 L j (vr a)) r σ) : GW p l e R s m args below meth c D cA nL A n0 adr0 lim Qm pc L (vr a :: r) σ := by
  intro adr H locs ls cells slots hwf hst hlo hl hP hD hS hn0 hlm hadr hce hsl
  obtain ⟨hx, hb, hml, hown, hts, hK, hN, hA, hlc, hls⟩ := C
  exact lv_astore hx hb hd hl hj (st1_map adr L j (vr a)) (fun ls' hl' => h adr H locs ls' cells slots hwf (tc hst).2 (st1_ok hlo (tc hst).1) hl' hP hD hS hn0 hlm hadr hce hsl)
theorem gw_astore_n (C : Hr p R s m args c D cA cc own nL A n0 lim) {j : Fin 4} {a : Nat} (hd : decode cc pc = .ok (.astore_n j, 1)) (hj : j.val < nL) (h : GW p l e R s m args below meth c D cA nL A n0 adr0 lim Qm (pc + 1) (st1 L j.val (vr a)) r σ) : GW p l e R s m args below meth c D cA nL A n0 adr0 lim Qm pc L (vr a :: r) σ := by
  intro adr H locs ls cells slots hwf hst hlo hl hP hD hS hn0 hlm hadr hce hsl
  obtain ⟨hx, hb, hml, hown, hts, hK, hN, hA, hlc, hls⟩ := C
  exact lv_astore_n hx hb hd rfl hl hj (st1_map adr L j.val (vr a)) (fun ls' hl' => h adr H locs ls' cells slots hwf (tc hst).2 (st1_ok hlo (tc hst).1) hl' hP hD hS hn0 hlm hadr hce hsl)
theorem gw_iinc (C : Hr p R s m args c D cA cc own nL A n0 lim) {j : Nat} {n a : Int} (hd : decode cc pc = .ok (.iinc j n, 3)) (hn : j < nL) (hj : lk L j = some (vi a)) (h : GW p l e R s m args below meth c D cA nL A n0 adr0 lim Qm (pc + 3) (st1 L j (vi (w32 (a + n)))) r σ) : GW p l e R s m args below meth c D cA nL A n0 adr0 lim Qm pc L (r) σ := by
  intro adr H locs ls cells slots hwf hst hlo hl hP hD hS hn0 hlm hadr hce hsl
  obtain ⟨hx, hb, hml, hown, hts, hK, hN, hA, hlc, hls⟩ := C
  obtain ⟨k, hk⟩ := List.getElem?_of_mem (List.mem_map.mpr ⟨(j, vi a), lk_mem hj, rfl⟩ : (j, rl adr (vi a)) ∈ L.map fun q => (q.1, rl adr q.2))
  exact lv_iinc (v := Int32.ofInt (w32 (a + n))) hx hb hd hl hk (by rw [i32_w, Int32.ofInt_add]) hn (st1_map adr L j (vi (w32 (a + n)))) (fun ls' hl' => h adr H locs ls' cells slots hwf hst (st1_ok hlo (ok_w32 _)) hl' hP hD hS hn0 hlm hadr hce hsl)
theorem gw_iadd (C : Hr p R s m args c D cA cc own nL A n0 lim) {a b : Int} (hd : decode cc pc = .ok (.iadd, 1)) (h : GW p l e R s m args below meth c D cA nL A n0 adr0 lim Qm (pc + 1) L (vi (w32 (a + b)) :: r) σ) : GW p l e R s m args below meth c D cA nL A n0 adr0 lim Qm pc L (vi b :: vi a :: r) σ := by
  intro adr H locs ls cells slots hwf hst hlo hl hP hD hS hn0 hlm hadr hce hsl
  obtain ⟨hx, hb, hml, hown, hts, hK, hN, hA, hlc, hls⟩ := C
  have k := h adr H locs ls cells slots hwf (ct (ok_w32 _) (tc (tc hst).2).2) hlo hl hP hD hS hn0 hlm hadr hce hsl
  rw [List.map_cons, show rl adr (vi (w32 (a + b))) = .int (Int32.ofInt (w32 (a + b))) from rfl, i32_w, Int32.ofInt_add] at k
  exact lv_iadd hx hb hd k
theorem gw_isub (C : Hr p R s m args c D cA cc own nL A n0 lim) {a b : Int} (hd : decode cc pc = .ok (.isub, 1)) (h : GW p l e R s m args below meth c D cA nL A n0 adr0 lim Qm (pc + 1) L (vi (w32 (a - b)) :: r) σ) : GW p l e R s m args below meth c D cA nL A n0 adr0 lim Qm pc L (vi b :: vi a :: r) σ := by
  intro adr H locs ls cells slots hwf hst hlo hl hP hD hS hn0 hlm hadr hce hsl
  obtain ⟨hx, hb, hml, hown, hts, hK, hN, hA, hlc, hls⟩ := C
  have k := h adr H locs ls cells slots hwf (ct (ok_w32 _) (tc (tc hst).2).2) hlo hl hP hD hS hn0 hlm hadr hce hsl
  rw [List.map_cons, show rl adr (vi (w32 (a - b))) = .int (Int32.ofInt (w32 (a - b))) from rfl, i32_w, Int32.ofInt_sub] at k
  exact lv_isub hx hb hd k
theorem gw_imul (C : Hr p R s m args c D cA cc own nL A n0 lim) {a b : Int} (hd : decode cc pc = .ok (.imul, 1)) (h : GW p l e R s m args below meth c D cA nL A n0 adr0 lim Qm (pc + 1) L (vi (w32 (a * b)) :: r) σ) : GW p l e R s m args below meth c D cA nL A n0 adr0 lim Qm pc L (vi b :: vi a :: r) σ := by
  intro adr H locs ls cells slots hwf hst hlo hl hP hD hS hn0 hlm hadr hce hsl
  obtain ⟨hx, hb, hml, hown, hts, hK, hN, hA, hlc, hls⟩ := C
  have k := h adr H locs ls cells slots hwf (ct (ok_w32 _) (tc (tc hst).2).2) hlo hl hP hD hS hn0 hlm hadr hce hsl
  rw [List.map_cons, show rl adr (vi (w32 (a * b))) = .int (Int32.ofInt (w32 (a * b))) from rfl, i32_w, Int32.ofInt_mul] at k
  exact lv_imul hx hb hd k
theorem gw_ladd (C : Hr p R s m args c D cA cc own nL A n0 lim) {a b : Int} (hd : decode cc pc = .ok (.ladd, 1)) (h : GW p l e R s m args below meth c D cA nL A n0 adr0 lim Qm (pc + 1) L (vl (w64 (a + b)) :: r) σ) : GW p l e R s m args below meth c D cA nL A n0 adr0 lim Qm pc L (vl b :: vl a :: r) σ := by
  intro adr H locs ls cells slots hwf hst hlo hl hP hD hS hn0 hlm hadr hce hsl
  obtain ⟨hx, hb, hml, hown, hts, hK, hN, hA, hlc, hls⟩ := C
  have k := h adr H locs ls cells slots hwf (ct (ok_w64 _) (tc (tc hst).2).2) hlo hl hP hD hS hn0 hlm hadr hce hsl
  rw [List.map_cons, show rl adr (vl (w64 (a + b))) = .long (Int64.ofInt (w64 (a + b))) from rfl, i64_w, Int64.ofInt_add] at k
  exact lv_ladd hx hb hd k
theorem gw_lsub (C : Hr p R s m args c D cA cc own nL A n0 lim) {a b : Int} (hd : decode cc pc = .ok (.lsub, 1)) (h : GW p l e R s m args below meth c D cA nL A n0 adr0 lim Qm (pc + 1) L (vl (w64 (a - b)) :: r) σ) : GW p l e R s m args below meth c D cA nL A n0 adr0 lim Qm pc L (vl b :: vl a :: r) σ := by
  intro adr H locs ls cells slots hwf hst hlo hl hP hD hS hn0 hlm hadr hce hsl
  obtain ⟨hx, hb, hml, hown, hts, hK, hN, hA, hlc, hls⟩ := C
  have k := h adr H locs ls cells slots hwf (ct (ok_w64 _) (tc (tc hst).2).2) hlo hl hP hD hS hn0 hlm hadr hce hsl
  rw [List.map_cons, show rl adr (vl (w64 (a - b))) = .long (Int64.ofInt (w64 (a - b))) from rfl, i64_w, Int64.ofInt_sub] at k
  exact lv_lsub hx hb hd k
theorem gw_lmul (C : Hr p R s m args c D cA cc own nL A n0 lim) {a b : Int} (hd : decode cc pc = .ok (.lmul, 1)) (h : GW p l e R s m args below meth c D cA nL A n0 adr0 lim Qm (pc + 1) L (vl (w64 (a * b)) :: r) σ) : GW p l e R s m args below meth c D cA nL A n0 adr0 lim Qm pc L (vl b :: vl a :: r) σ := by
  intro adr H locs ls cells slots hwf hst hlo hl hP hD hS hn0 hlm hadr hce hsl
  obtain ⟨hx, hb, hml, hown, hts, hK, hN, hA, hlc, hls⟩ := C
  have k := h adr H locs ls cells slots hwf (ct (ok_w64 _) (tc (tc hst).2).2) hlo hl hP hD hS hn0 hlm hadr hce hsl
  rw [List.map_cons, show rl adr (vl (w64 (a * b))) = .long (Int64.ofInt (w64 (a * b))) from rfl, i64_w, Int64.ofInt_mul] at k
  exact lv_lmul hx hb hd k
theorem gw_idiv (C : Hr p R s m args c D cA cc own nL A n0 lim) {a b : Int} (hd : decode cc pc = .ok (.idiv, 1)) (hne : b ≠ 0) (h : GW p l e R s m args below meth c D cA nL A n0 adr0 lim Qm (pc + 1) L (vi (w32 (Int.tdiv a b)) :: r) σ) : GW p l e R s m args below meth c D cA nL A n0 adr0 lim Qm pc L (vi b :: vi a :: r) σ := by
  intro adr H locs ls cells slots hwf hst hlo hl hP hD hS hn0 hlm hadr hce hsl
  obtain ⟨hx, hb, hml, hown, hts, hK, hN, hA, hlc, hls⟩ := C
  have k := h adr H locs ls cells slots hwf (ct (ok_w32 _) (tc (tc hst).2).2) hlo hl hP hD hS hn0 hlm hadr hce hsl
  rw [List.map_cons, show rl adr (vi (w32 (Int.tdiv a b))) = .int (Int32.ofInt (w32 (Int.tdiv a b))) from rfl, i32_dv (tc (tc hst).2).1 (tc hst).1] at k
  exact lv_idiv hx hb hd (i32_t_n0 (tc hst).1 hne) k
theorem gw_ldiv (C : Hr p R s m args c D cA cc own nL A n0 lim) {a b : Int} (hd : decode cc pc = .ok (.ldiv, 1)) (hne : b ≠ 0) (h : GW p l e R s m args below meth c D cA nL A n0 adr0 lim Qm (pc + 1) L (vl (w64 (Int.tdiv a b)) :: r) σ) : GW p l e R s m args below meth c D cA nL A n0 adr0 lim Qm pc L (vl b :: vl a :: r) σ := by
  intro adr H locs ls cells slots hwf hst hlo hl hP hD hS hn0 hlm hadr hce hsl
  obtain ⟨hx, hb, hml, hown, hts, hK, hN, hA, hlc, hls⟩ := C
  have k := h adr H locs ls cells slots hwf (ct (ok_w64 _) (tc (tc hst).2).2) hlo hl hP hD hS hn0 hlm hadr hce hsl
  rw [List.map_cons, show rl adr (vl (w64 (Int.tdiv a b))) = .long (Int64.ofInt (w64 (Int.tdiv a b))) from rfl, i64_dv (tc (tc hst).2).1 (tc hst).1] at k
  exact lv_ldiv hx hb hd (i64_t_n0 (tc hst).1 hne) k
theorem gw_irem (C : Hr p R s m args c D cA cc own nL A n0 lim) {a b : Int} (hd : decode cc pc = .ok (.irem, 1)) (hne : b ≠ 0) (h : GW p l e R s m args below meth c D cA nL A n0 adr0 lim Qm (pc + 1) L (vi (Int.tmod a b) :: r) σ) : GW p l e R s m args below meth c D cA nL A n0 adr0 lim Qm pc L (vi b :: vi a :: r) σ := by
  intro adr H locs ls cells slots hwf hst hlo hl hP hD hS hn0 hlm hadr hce hsl
  obtain ⟨hx, hb, hml, hown, hts, hK, hN, hA, hlc, hls⟩ := C
  have k := h adr H locs ls cells slots hwf (ct (ok_tm (tc (tc hst).2).1 (tc hst).1 hne) (tc (tc hst).2).2) hlo hl hP hD hS hn0 hlm hadr hce hsl
  rw [List.map_cons, show rl adr (vi (Int.tmod a b)) = .int (Int32.ofInt (Int.tmod a b)) from rfl, i32_rm (tc (tc hst).2).1 (tc hst).1] at k
  exact lv_irem hx hb hd (i32_t_n0 (tc hst).1 hne) k
theorem gw_ineg (C : Hr p R s m args c D cA cc own nL A n0 lim) {a : Int} (hd : decode cc pc = .ok (.ineg, 1)) (h : GW p l e R s m args below meth c D cA nL A n0 adr0 lim Qm (pc + 1) L (vi (w32 (-a)) :: r) σ) : GW p l e R s m args below meth c D cA nL A n0 adr0 lim Qm pc L (vi a :: r) σ := by
  intro adr H locs ls cells slots hwf hst hlo hl hP hD hS hn0 hlm hadr hce hsl
  obtain ⟨hx, hb, hml, hown, hts, hK, hN, hA, hlc, hls⟩ := C
  have k := h adr H locs ls cells slots hwf (ct (ok_w32 _) (tc hst).2) hlo hl hP hD hS hn0 hlm hadr hce hsl
  rw [List.map_cons, show rl adr (vi (w32 (-a))) = .int (Int32.ofInt (w32 (-a))) from rfl, i32_w, Int32.ofInt_neg] at k
  exact lv_ineg hx hb hd k
theorem gw_lneg (C : Hr p R s m args c D cA cc own nL A n0 lim) {a : Int} (hd : decode cc pc = .ok (.lneg, 1)) (h : GW p l e R s m args below meth c D cA nL A n0 adr0 lim Qm (pc + 1) L (vl (w64 (-a)) :: r) σ) : GW p l e R s m args below meth c D cA nL A n0 adr0 lim Qm pc L (vl a :: r) σ := by
  intro adr H locs ls cells slots hwf hst hlo hl hP hD hS hn0 hlm hadr hce hsl
  obtain ⟨hx, hb, hml, hown, hts, hK, hN, hA, hlc, hls⟩ := C
  have k := h adr H locs ls cells slots hwf (ct (ok_w64 _) (tc hst).2) hlo hl hP hD hS hn0 hlm hadr hce hsl
  rw [List.map_cons, show rl adr (vl (w64 (-a))) = .long (Int64.ofInt (w64 (-a))) from rfl, i64_w, Int64.ofInt_neg] at k
  exact lv_lneg hx hb hd k
theorem gw_iand (C : Hr p R s m args c D cA cc own nL A n0 lim) {a b : Int} (hd : decode cc pc = .ok (.iand, 1)) (h : GW p l e R s m args below meth c D cA nL A n0 adr0 lim Qm (pc + 1) L (vi (and32 a b) :: r) σ) : GW p l e R s m args below meth c D cA nL A n0 adr0 lim Qm pc L (vi b :: vi a :: r) σ := by
  intro adr H locs ls cells slots hwf hst hlo hl hP hD hS hn0 hlm hadr hce hsl
  obtain ⟨hx, hb, hml, hown, hts, hK, hN, hA, hlc, hls⟩ := C
  have k := h adr H locs ls cells slots hwf (ct (ok_i32 _) (tc (tc hst).2).2) hlo hl hP hD hS hn0 hlm hadr hce hsl
  rw [List.map_cons, show rl adr (vi (and32 a b)) = .int (Int32.ofInt (and32 a b)) from rfl, show Int32.ofInt (and32 a b) = _ from Int32.ofInt_toInt _] at k
  exact lv_iand hx hb hd k
theorem gw_ior (C : Hr p R s m args c D cA cc own nL A n0 lim) {a b : Int} (hd : decode cc pc = .ok (.ior, 1)) (h : GW p l e R s m args below meth c D cA nL A n0 adr0 lim Qm (pc + 1) L (vi (or32 a b) :: r) σ) : GW p l e R s m args below meth c D cA nL A n0 adr0 lim Qm pc L (vi b :: vi a :: r) σ := by
  intro adr H locs ls cells slots hwf hst hlo hl hP hD hS hn0 hlm hadr hce hsl
  obtain ⟨hx, hb, hml, hown, hts, hK, hN, hA, hlc, hls⟩ := C
  have k := h adr H locs ls cells slots hwf (ct (ok_i32 _) (tc (tc hst).2).2) hlo hl hP hD hS hn0 hlm hadr hce hsl
  rw [List.map_cons, show rl adr (vi (or32 a b)) = .int (Int32.ofInt (or32 a b)) from rfl, show Int32.ofInt (or32 a b) = _ from Int32.ofInt_toInt _] at k
  exact lv_ior hx hb hd k
theorem gw_ixor (C : Hr p R s m args c D cA cc own nL A n0 lim) {a b : Int} (hd : decode cc pc = .ok (.ixor, 1)) (h : GW p l e R s m args below meth c D cA nL A n0 adr0 lim Qm (pc + 1) L (vi (xor32 a b) :: r) σ) : GW p l e R s m args below meth c D cA nL A n0 adr0 lim Qm pc L (vi b :: vi a :: r) σ := by
  intro adr H locs ls cells slots hwf hst hlo hl hP hD hS hn0 hlm hadr hce hsl
  obtain ⟨hx, hb, hml, hown, hts, hK, hN, hA, hlc, hls⟩ := C
  have k := h adr H locs ls cells slots hwf (ct (ok_i32 _) (tc (tc hst).2).2) hlo hl hP hD hS hn0 hlm hadr hce hsl
  rw [List.map_cons, show rl adr (vi (xor32 a b)) = .int (Int32.ofInt (xor32 a b)) from rfl, show Int32.ofInt (xor32 a b) = _ from Int32.ofInt_toInt _] at k
  exact lv_ixor hx hb hd k
theorem gw_ishl (C : Hr p R s m args c D cA cc own nL A n0 lim) {a b : Int} (hd : decode cc pc = .ok (.ishl, 1)) (h : GW p l e R s m args below meth c D cA nL A n0 adr0 lim Qm (pc + 1) L (vi (shl32 a b) :: r) σ) : GW p l e R s m args below meth c D cA nL A n0 adr0 lim Qm pc L (vi b :: vi a :: r) σ := by
  intro adr H locs ls cells slots hwf hst hlo hl hP hD hS hn0 hlm hadr hce hsl
  obtain ⟨hx, hb, hml, hown, hts, hK, hN, hA, hlc, hls⟩ := C
  have k := h adr H locs ls cells slots hwf (ct (ok_i32 _) (tc (tc hst).2).2) hlo hl hP hD hS hn0 hlm hadr hce hsl
  rw [List.map_cons, show rl adr (vi (shl32 a b)) = .int (Int32.ofInt (shl32 a b)) from rfl, show Int32.ofInt (shl32 a b) = _ from Int32.ofInt_toInt _] at k
  exact lv_ishl hx hb hd k
theorem gw_ishr (C : Hr p R s m args c D cA cc own nL A n0 lim) {a b : Int} (hd : decode cc pc = .ok (.ishr, 1)) (h : GW p l e R s m args below meth c D cA nL A n0 adr0 lim Qm (pc + 1) L (vi (shr32 a b) :: r) σ) : GW p l e R s m args below meth c D cA nL A n0 adr0 lim Qm pc L (vi b :: vi a :: r) σ := by
  intro adr H locs ls cells slots hwf hst hlo hl hP hD hS hn0 hlm hadr hce hsl
  obtain ⟨hx, hb, hml, hown, hts, hK, hN, hA, hlc, hls⟩ := C
  have k := h adr H locs ls cells slots hwf (ct (ok_i32 _) (tc (tc hst).2).2) hlo hl hP hD hS hn0 hlm hadr hce hsl
  rw [List.map_cons, show rl adr (vi (shr32 a b)) = .int (Int32.ofInt (shr32 a b)) from rfl, show Int32.ofInt (shr32 a b) = _ from Int32.ofInt_toInt _] at k
  exact lv_ishr hx hb hd k
theorem gw_iushr (C : Hr p R s m args c D cA cc own nL A n0 lim) {a b : Int} (hd : decode cc pc = .ok (.iushr, 1)) (h : GW p l e R s m args below meth c D cA nL A n0 adr0 lim Qm (pc + 1) L (vi (ushr32 a b) :: r) σ) : GW p l e R s m args below meth c D cA nL A n0 adr0 lim Qm pc L (vi b :: vi a :: r) σ := by
  intro adr H locs ls cells slots hwf hst hlo hl hP hD hS hn0 hlm hadr hce hsl
  obtain ⟨hx, hb, hml, hown, hts, hK, hN, hA, hlc, hls⟩ := C
  have k := h adr H locs ls cells slots hwf (ct (ok_i32 _) (tc (tc hst).2).2) hlo hl hP hD hS hn0 hlm hadr hce hsl
  exact lv_iushr hx hb hd (Int32.ofInt_toInt _).symm k
theorem gw_land (C : Hr p R s m args c D cA cc own nL A n0 lim) {a b : Int} (hd : decode cc pc = .ok (.land, 1)) (h : GW p l e R s m args below meth c D cA nL A n0 adr0 lim Qm (pc + 1) L (vl (and64 a b) :: r) σ) : GW p l e R s m args below meth c D cA nL A n0 adr0 lim Qm pc L (vl b :: vl a :: r) σ := by
  intro adr H locs ls cells slots hwf hst hlo hl hP hD hS hn0 hlm hadr hce hsl
  obtain ⟨hx, hb, hml, hown, hts, hK, hN, hA, hlc, hls⟩ := C
  have k := h adr H locs ls cells slots hwf (ct (ok_i64 _) (tc (tc hst).2).2) hlo hl hP hD hS hn0 hlm hadr hce hsl
  rw [List.map_cons, show rl adr (vl (and64 a b)) = .long (Int64.ofInt (and64 a b)) from rfl, show Int64.ofInt (and64 a b) = _ from Int64.ofInt_toInt _] at k
  exact lv_land hx hb hd k
theorem gw_lor (C : Hr p R s m args c D cA cc own nL A n0 lim) {a b : Int} (hd : decode cc pc = .ok (.lor, 1)) (h : GW p l e R s m args below meth c D cA nL A n0 adr0 lim Qm (pc + 1) L (vl (or64 a b) :: r) σ) : GW p l e R s m args below meth c D cA nL A n0 adr0 lim Qm pc L (vl b :: vl a :: r) σ := by
  intro adr H locs ls cells slots hwf hst hlo hl hP hD hS hn0 hlm hadr hce hsl
  obtain ⟨hx, hb, hml, hown, hts, hK, hN, hA, hlc, hls⟩ := C
  have k := h adr H locs ls cells slots hwf (ct (ok_i64 _) (tc (tc hst).2).2) hlo hl hP hD hS hn0 hlm hadr hce hsl
  rw [List.map_cons, show rl adr (vl (or64 a b)) = .long (Int64.ofInt (or64 a b)) from rfl, show Int64.ofInt (or64 a b) = _ from Int64.ofInt_toInt _] at k
  exact lv_lor hx hb hd k
theorem gw_lxor (C : Hr p R s m args c D cA cc own nL A n0 lim) {a b : Int} (hd : decode cc pc = .ok (.lxor, 1)) (h : GW p l e R s m args below meth c D cA nL A n0 adr0 lim Qm (pc + 1) L (vl (xor64 a b) :: r) σ) : GW p l e R s m args below meth c D cA nL A n0 adr0 lim Qm pc L (vl b :: vl a :: r) σ := by
  intro adr H locs ls cells slots hwf hst hlo hl hP hD hS hn0 hlm hadr hce hsl
  obtain ⟨hx, hb, hml, hown, hts, hK, hN, hA, hlc, hls⟩ := C
  have k := h adr H locs ls cells slots hwf (ct (ok_i64 _) (tc (tc hst).2).2) hlo hl hP hD hS hn0 hlm hadr hce hsl
  rw [List.map_cons, show rl adr (vl (xor64 a b)) = .long (Int64.ofInt (xor64 a b)) from rfl, show Int64.ofInt (xor64 a b) = _ from Int64.ofInt_toInt _] at k
  exact lv_lxor hx hb hd k
theorem gw_lshl (C : Hr p R s m args c D cA cc own nL A n0 lim) {a b : Int} (hd : decode cc pc = .ok (.lshl, 1)) (h : GW p l e R s m args below meth c D cA nL A n0 adr0 lim Qm (pc + 1) L (vl (shl64 a b) :: r) σ) : GW p l e R s m args below meth c D cA nL A n0 adr0 lim Qm pc L (vi b :: vl a :: r) σ := by
  intro adr H locs ls cells slots hwf hst hlo hl hP hD hS hn0 hlm hadr hce hsl
  obtain ⟨hx, hb, hml, hown, hts, hK, hN, hA, hlc, hls⟩ := C
  have k := h adr H locs ls cells slots hwf (ct (ok_i64 _) (tc (tc hst).2).2) hlo hl hP hD hS hn0 hlm hadr hce hsl
  exact lv_lshl hx hb hd (Int64.ofInt_toInt _).symm k
theorem gw_lshr (C : Hr p R s m args c D cA cc own nL A n0 lim) {a b : Int} (hd : decode cc pc = .ok (.lshr, 1)) (h : GW p l e R s m args below meth c D cA nL A n0 adr0 lim Qm (pc + 1) L (vl (shr64 a b) :: r) σ) : GW p l e R s m args below meth c D cA nL A n0 adr0 lim Qm pc L (vi b :: vl a :: r) σ := by
  intro adr H locs ls cells slots hwf hst hlo hl hP hD hS hn0 hlm hadr hce hsl
  obtain ⟨hx, hb, hml, hown, hts, hK, hN, hA, hlc, hls⟩ := C
  have k := h adr H locs ls cells slots hwf (ct (ok_i64 _) (tc (tc hst).2).2) hlo hl hP hD hS hn0 hlm hadr hce hsl
  exact lv_lshr hx hb hd (Int64.ofInt_toInt _).symm k
theorem gw_lushr (C : Hr p R s m args c D cA cc own nL A n0 lim) {a b : Int} (hd : decode cc pc = .ok (.lushr, 1)) (h : GW p l e R s m args below meth c D cA nL A n0 adr0 lim Qm (pc + 1) L (vl (ushr64 a b) :: r) σ) : GW p l e R s m args below meth c D cA nL A n0 adr0 lim Qm pc L (vi b :: vl a :: r) σ := by
  intro adr H locs ls cells slots hwf hst hlo hl hP hD hS hn0 hlm hadr hce hsl
  obtain ⟨hx, hb, hml, hown, hts, hK, hN, hA, hlc, hls⟩ := C
  have k := h adr H locs ls cells slots hwf (ct (ok_i64 _) (tc (tc hst).2).2) hlo hl hP hD hS hn0 hlm hadr hce hsl
  exact lv_lushr hx hb hd (Int64.ofInt_toInt _).symm k
theorem gw_i2l (C : Hr p R s m args c D cA cc own nL A n0 lim) {a : Int} (hd : decode cc pc = .ok (.i2l, 1)) (h : GW p l e R s m args below meth c D cA nL A n0 adr0 lim Qm (pc + 1) L (vl a :: r) σ) : GW p l e R s m args below meth c D cA nL A n0 adr0 lim Qm pc L (vi a :: r) σ := by
  intro adr H locs ls cells slots hwf hst hlo hl hP hD hS hn0 hlm hadr hce hsl
  obtain ⟨hx, hb, hml, hown, hts, hK, hN, hA, hlc, hls⟩ := C
  exact lv_i2l hx hb hd (i32_l (tc hst).1) (h adr H locs ls cells slots hwf (ct (ok_il (tc hst).1) (tc hst).2) hlo hl hP hD hS hn0 hlm hadr hce hsl)
theorem gw_l2i (C : Hr p R s m args c D cA cc own nL A n0 lim) {a : Int} (hd : decode cc pc = .ok (.l2i, 1)) (h : GW p l e R s m args below meth c D cA nL A n0 adr0 lim Qm (pc + 1) L (vi (w32 a) :: r) σ) : GW p l e R s m args below meth c D cA nL A n0 adr0 lim Qm pc L (vl a :: r) σ := by
  intro adr H locs ls cells slots hwf hst hlo hl hP hD hS hn0 hlm hadr hce hsl
  obtain ⟨hx, hb, hml, hown, hts, hK, hN, hA, hlc, hls⟩ := C
  exact lv_l2i hx hb hd (i64_i (tc hst).1) (h adr H locs ls cells slots hwf (ct (ok_w32 _) (tc hst).2) hlo hl hP hD hS hn0 hlm hadr hce hsl)
theorem gw_lcmp (C : Hr p R s m args c D cA cc own nL A n0 lim) {a b : Int} (hd : decode cc pc = .ok (.lcmp, 1)) (h : GW p l e R s m args below meth c D cA nL A n0 adr0 lim Qm (pc + 1) L (vi (cmp3 a b) :: r) σ) : GW p l e R s m args below meth c D cA nL A n0 adr0 lim Qm pc L (vl b :: vl a :: r) σ := by
  intro adr H locs ls cells slots hwf hst hlo hl hP hD hS hn0 hlm hadr hce hsl
  obtain ⟨hx, hb, hml, hown, hts, hK, hN, hA, hlc, hls⟩ := C
  have k := h adr H locs ls cells slots hwf (ct (ok_cmp3 a b) (tc (tc hst).2).2) hlo hl hP hD hS hn0 hlm hadr hce hsl
  rw [List.map_cons, show rl adr (vi (cmp3 a b)) = .int (Int32.ofInt (cmp3 a b)) from rfl, cmp3_lg (tc (tc hst).2).1 (tc hst).1] at k
  exact W.lcmp hx hb hd k
theorem gw_dup_i (C : Hr p R s m args c D cA cc own nL A n0 lim) {a : Int} (hd : decode cc pc = .ok (.dup, 1)) (h : GW p l e R s m args below meth c D cA nL A n0 adr0 lim Qm (pc + 1) L (vi a :: vi a :: r) σ) : GW p l e R s m args below meth c D cA nL A n0 adr0 lim Qm pc L (vi a :: r) σ := by
  intro adr H locs ls cells slots hwf hst hlo hl hP hD hS hn0 hlm hadr hce hsl
  obtain ⟨hx, hb, hml, hown, hts, hK, hN, hA, hlc, hls⟩ := C
  exact lv_dup hx hb hd rfl (h adr H locs ls cells slots hwf (ct (tc hst).1 hst) hlo hl hP hD hS hn0 hlm hadr hce hsl)
theorem gw_pop_i (C : Hr p R s m args c D cA cc own nL A n0 lim) {a : Int} (hd : decode cc pc = .ok (.pop, 1)) (h : GW p l e R s m args below meth c D cA nL A n0 adr0 lim Qm (pc + 1) L r σ) : GW p l e R s m args below meth c D cA nL A n0 adr0 lim Qm pc L (vi a :: r) σ := by
  intro adr H locs ls cells slots hwf hst hlo hl hP hD hS hn0 hlm hadr hce hsl
  obtain ⟨hx, hb, hml, hown, hts, hK, hN, hA, hlc, hls⟩ := C
  exact lv_pop hx hb hd rfl (h adr H locs ls cells slots hwf ((tc hst).2) hlo hl hP hD hS hn0 hlm hadr hce hsl)
theorem gw_dup2_i (C : Hr p R s m args c D cA cc own nL A n0 lim) {a : Int} {b : Int} (hd : decode cc pc = .ok (.dup2, 1)) (h : GW p l e R s m args below meth c D cA nL A n0 adr0 lim Qm (pc + 1) L (vi b :: vi a :: vi b :: vi a :: r) σ) : GW p l e R s m args below meth c D cA nL A n0 adr0 lim Qm pc L (vi b :: vi a :: r) σ := by
  intro adr H locs ls cells slots hwf hst hlo hl hP hD hS hn0 hlm hadr hce hsl
  obtain ⟨hx, hb, hml, hown, hts, hK, hN, hA, hlc, hls⟩ := C
  exact lv_dup2_11 hx hb hd rfl rfl (h adr H locs ls cells slots hwf (ct (tc hst).1 (ct (tc (tc hst).2).1 hst)) hlo hl hP hD hS hn0 hlm hadr hce hsl)
theorem gw_dup_a (C : Hr p R s m args c D cA cc own nL A n0 lim) {a : Nat} (hd : decode cc pc = .ok (.dup, 1)) (h : GW p l e R s m args below meth c D cA nL A n0 adr0 lim Qm (pc + 1) L (vr a :: vr a :: r) σ) : GW p l e R s m args below meth c D cA nL A n0 adr0 lim Qm pc L (vr a :: r) σ := by
  intro adr H locs ls cells slots hwf hst hlo hl hP hD hS hn0 hlm hadr hce hsl
  obtain ⟨hx, hb, hml, hown, hts, hK, hN, hA, hlc, hls⟩ := C
  exact lv_dup hx hb hd rfl (h adr H locs ls cells slots hwf (ct (tc hst).1 hst) hlo hl hP hD hS hn0 hlm hadr hce hsl)
theorem gw_pop_a (C : Hr p R s m args c D cA cc own nL A n0 lim) {a : Nat} (hd : decode cc pc = .ok (.pop, 1)) (h : GW p l e R s m args below meth c D cA nL A n0 adr0 lim Qm (pc + 1) L r σ) : GW p l e R s m args below meth c D cA nL A n0 adr0 lim Qm pc L (vr a :: r) σ := by
  intro adr H locs ls cells slots hwf hst hlo hl hP hD hS hn0 hlm hadr hce hsl
  obtain ⟨hx, hb, hml, hown, hts, hK, hN, hA, hlc, hls⟩ := C
  exact lv_pop hx hb hd rfl (h adr H locs ls cells slots hwf ((tc hst).2) hlo hl hP hD hS hn0 hlm hadr hce hsl)
theorem gw_dup2_a (C : Hr p R s m args c D cA cc own nL A n0 lim) {a : Nat} {b : Int} (hd : decode cc pc = .ok (.dup2, 1)) (h : GW p l e R s m args below meth c D cA nL A n0 adr0 lim Qm (pc + 1) L (vi b :: vr a :: vi b :: vr a :: r) σ) : GW p l e R s m args below meth c D cA nL A n0 adr0 lim Qm pc L (vi b :: vr a :: r) σ := by
  intro adr H locs ls cells slots hwf hst hlo hl hP hD hS hn0 hlm hadr hce hsl
  obtain ⟨hx, hb, hml, hown, hts, hK, hN, hA, hlc, hls⟩ := C
  exact lv_dup2_11 hx hb hd rfl rfl (h adr H locs ls cells slots hwf (ct (tc hst).1 (ct (tc (tc hst).2).1 hst)) hlo hl hP hD hS hn0 hlm hadr hce hsl)
theorem gw_pop2 (C : Hr p R s m args c D cA cc own nL A n0 lim) {a : Int} (hd : decode cc pc = .ok (.pop2, 1)) (h : GW p l e R s m args below meth c D cA nL A n0 adr0 lim Qm (pc + 1) L r σ) : GW p l e R s m args below meth c D cA nL A n0 adr0 lim Qm pc L (vl a :: r) σ := by
  intro adr H locs ls cells slots hwf hst hlo hl hP hD hS hn0 hlm hadr hce hsl
  obtain ⟨hx, hb, hml, hown, hts, hK, hN, hA, hlc, hls⟩ := C
  exact lv_pop2_2 hx hb hd rfl (h adr H locs ls cells slots hwf ((tc hst).2) hlo hl hP hD hS hn0 hlm hadr hce hsl)
theorem gw_goto (C : Hr p R s m args c D cA cc own nL A n0 lim) {off : Int} {tgt : Nat} (hd : decode cc pc = .ok (.goto off, 3)) (ht : (pc : Int) + off = (tgt : Int)) (h : GW p l e R s m args below meth c D cA nL A n0 adr0 lim Qm tgt L r σ) : GW p l e R s m args below meth c D cA nL A n0 adr0 lim Qm pc L (r) σ := by
  intro adr H locs ls cells slots hwf hst hlo hl hP hD hS hn0 hlm hadr hce hsl
  obtain ⟨hx, hb, hml, hown, hts, hK, hN, hA, hlc, hls⟩ := C
  exact lv_goto hx hb hd ht (h adr H locs ls cells slots hwf (hst) hlo hl hP hD hS hn0 hlm hadr hce hsl)
theorem gw_if_eq (C : Hr p R s m args c D cA cc own nL A n0 lim) {off a : Int} {tgt : Nat} (hd : decode cc pc = .ok (.ifCond .eq off, 3)) (ht : (pc : Int) + off = (tgt : Int)) (h1 : cmpI .eq a 0 → GW p l e R s m args below meth c D cA nL A n0 adr0 lim Qm tgt L r σ) (h2 : ¬ cmpI .eq a 0 → GW p l e R s m args below meth c D cA nL A n0 adr0 lim Qm (pc + 3) L r σ) : GW p l e R s m args below meth c D cA nL A n0 adr0 lim Qm pc L (vi a :: r) σ := by
  intro adr H locs ls cells slots hwf hst hlo hl hP hD hS hn0 hlm hadr hce hsl
  obtain ⟨hx, hb, hml, hown, hts, hK, hN, hA, hlc, hls⟩ := C
  exact lv_if_eq hx hb hd ht (fun z => h1 ((i32_eq (tc hst).1 ok_0).mp z) adr H locs ls cells slots hwf (tc hst).2 hlo hl hP hD hS hn0 hlm hadr hce hsl) (fun z => h2 (fun q => z ((i32_eq (tc hst).1 ok_0).mpr q)) adr H locs ls cells slots hwf (tc hst).2 hlo hl hP hD hS hn0 hlm hadr hce hsl)
theorem gw_icmp_eq (C : Hr p R s m args c D cA cc own nL A n0 lim) {off a b : Int} {tgt : Nat} (hd : decode cc pc = .ok (.if_icmp .eq off, 3)) (ht : (pc : Int) + off = (tgt : Int)) (h1 : cmpI .eq a b → GW p l e R s m args below meth c D cA nL A n0 adr0 lim Qm tgt L r σ) (h2 : ¬ cmpI .eq a b → GW p l e R s m args below meth c D cA nL A n0 adr0 lim Qm (pc + 3) L r σ) : GW p l e R s m args below meth c D cA nL A n0 adr0 lim Qm pc L (vi b :: vi a :: r) σ := by
  intro adr H locs ls cells slots hwf hst hlo hl hP hD hS hn0 hlm hadr hce hsl
  obtain ⟨hx, hb, hml, hown, hts, hK, hN, hA, hlc, hls⟩ := C
  exact lv_icmp_eq hx hb hd ht (fun z => h1 ((i32_eq (tc (tc hst).2).1 (tc hst).1).mp z) adr H locs ls cells slots hwf (tc (tc hst).2).2 hlo hl hP hD hS hn0 hlm hadr hce hsl) (fun z => h2 (fun q => z ((i32_eq (tc (tc hst).2).1 (tc hst).1).mpr q)) adr H locs ls cells slots hwf (tc (tc hst).2).2 hlo hl hP hD hS hn0 hlm hadr hce hsl)
theorem gw_if_ne (C : Hr p R s m args c D cA cc own nL A n0 lim) {off a : Int} {tgt : Nat} (hd : decode cc pc = .ok (.ifCond .ne off, 3)) (ht : (pc : Int) + off = (tgt : Int)) (h1 : cmpI .ne a 0 → GW p l e R s m args below meth c D cA nL A n0 adr0 lim Qm tgt L r σ) (h2 : ¬ cmpI .ne a 0 → GW p l e R s m args below meth c D cA nL A n0 adr0 lim Qm (pc + 3) L r σ) : GW p l e R s m args below meth c D cA nL A n0 adr0 lim Qm pc L (vi a :: r) σ := by
  intro adr H locs ls cells slots hwf hst hlo hl hP hD hS hn0 hlm hadr hce hsl
  obtain ⟨hx, hb, hml, hown, hts, hK, hN, hA, hlc, hls⟩ := C
  exact lv_if_ne hx hb hd ht (fun z => h1 (fun q => z ((i32_eq (tc hst).1 ok_0).mpr q)) adr H locs ls cells slots hwf (tc hst).2 hlo hl hP hD hS hn0 hlm hadr hce hsl) (fun z => h2 (fun q => q ((i32_eq (tc hst).1 ok_0).mp z)) adr H locs ls cells slots hwf (tc hst).2 hlo hl hP hD hS hn0 hlm hadr hce hsl)
theorem gw_icmp_ne (C : Hr p R s m args c D cA cc own nL A n0 lim) {off a b : Int} {tgt : Nat} (hd : decode cc pc = .ok (.if_icmp .ne off, 3)) (ht : (pc : Int) + off = (tgt : Int)) (h1 : cmpI .ne a b → GW p l e R s m args below meth c D cA nL A n0 adr0 lim Qm tgt L r σ) (h2 : ¬ cmpI .ne a b → GW p l e R s m args below meth c D cA nL A n0 adr0 lim Qm (pc + 3) L r σ) : GW p l e R s m args below meth c D cA nL A n0 adr0 lim Qm pc L (vi b :: vi a :: r) σ := by
  intro adr H locs ls cells slots hwf hst hlo hl hP hD hS hn0 hlm hadr hce hsl
  obtain ⟨hx, hb, hml, hown, hts, hK, hN, hA, hlc, hls⟩ := C
  exact lv_icmp_ne hx hb hd ht (fun z => h1 (fun q => z ((i32_eq (tc (tc hst).2).1 (tc hst).1).mpr q)) adr H locs ls cells slots hwf (tc (tc hst).2).2 hlo hl hP hD hS hn0 hlm hadr hce hsl) (fun z => h2 (fun q => q ((i32_eq (tc (tc hst).2).1 (tc hst).1).mp z)) adr H locs ls cells slots hwf (tc (tc hst).2).2 hlo hl hP hD hS hn0 hlm hadr hce hsl)
theorem gw_if_lt (C : Hr p R s m args c D cA cc own nL A n0 lim) {off a : Int} {tgt : Nat} (hd : decode cc pc = .ok (.ifCond .lt off, 3)) (ht : (pc : Int) + off = (tgt : Int)) (h1 : cmpI .lt a 0 → GW p l e R s m args below meth c D cA nL A n0 adr0 lim Qm tgt L r σ) (h2 : ¬ cmpI .lt a 0 → GW p l e R s m args below meth c D cA nL A n0 adr0 lim Qm (pc + 3) L r σ) : GW p l e R s m args below meth c D cA nL A n0 adr0 lim Qm pc L (vi a :: r) σ := by
  intro adr H locs ls cells slots hwf hst hlo hl hP hD hS hn0 hlm hadr hce hsl
  obtain ⟨hx, hb, hml, hown, hts, hK, hN, hA, hlc, hls⟩ := C
  exact lv_if_lt hx hb hd ht (fun z => h1 ((i32_lt (tc hst).1 ok_0).mp z) adr H locs ls cells slots hwf (tc hst).2 hlo hl hP hD hS hn0 hlm hadr hce hsl) (fun z => h2 (fun q => z ((i32_lt (tc hst).1 ok_0).mpr q)) adr H locs ls cells slots hwf (tc hst).2 hlo hl hP hD hS hn0 hlm hadr hce hsl)
theorem gw_icmp_lt (C : Hr p R s m args c D cA cc own nL A n0 lim) {off a b : Int} {tgt : Nat} (hd : decode cc pc = .ok (.if_icmp .lt off, 3)) (ht : (pc : Int) + off = (tgt : Int)) (h1 : cmpI .lt a b → GW p l e R s m args below meth c D cA nL A n0 adr0 lim Qm tgt L r σ) (h2 : ¬ cmpI .lt a b → GW p l e R s m args below meth c D cA nL A n0 adr0 lim Qm (pc + 3) L r σ) : GW p l e R s m args below meth c D cA nL A n0 adr0 lim Qm pc L (vi b :: vi a :: r) σ := by
  intro adr H locs ls cells slots hwf hst hlo hl hP hD hS hn0 hlm hadr hce hsl
  obtain ⟨hx, hb, hml, hown, hts, hK, hN, hA, hlc, hls⟩ := C
  exact lv_icmp_lt hx hb hd ht (fun z => h1 ((i32_lt (tc (tc hst).2).1 (tc hst).1).mp z) adr H locs ls cells slots hwf (tc (tc hst).2).2 hlo hl hP hD hS hn0 hlm hadr hce hsl) (fun z => h2 (fun q => z ((i32_lt (tc (tc hst).2).1 (tc hst).1).mpr q)) adr H locs ls cells slots hwf (tc (tc hst).2).2 hlo hl hP hD hS hn0 hlm hadr hce hsl)
theorem gw_if_ge (C : Hr p R s m args c D cA cc own nL A n0 lim) {off a : Int} {tgt : Nat} (hd : decode cc pc = .ok (.ifCond .ge off, 3)) (ht : (pc : Int) + off = (tgt : Int)) (h1 : cmpI .ge a 0 → GW p l e R s m args below meth c D cA nL A n0 adr0 lim Qm tgt L r σ) (h2 : ¬ cmpI .ge a 0 → GW p l e R s m args below meth c D cA nL A n0 adr0 lim Qm (pc + 3) L r σ) : GW p l e R s m args below meth c D cA nL A n0 adr0 lim Qm pc L (vi a :: r) σ := by
  intro adr H locs ls cells slots hwf hst hlo hl hP hD hS hn0 hlm hadr hce hsl
  obtain ⟨hx, hb, hml, hown, hts, hK, hN, hA, hlc, hls⟩ := C
  exact lv_if_ge hx hb hd ht (fun z => h1 ((i32_le ok_0 (tc hst).1).mp z) adr H locs ls cells slots hwf (tc hst).2 hlo hl hP hD hS hn0 hlm hadr hce hsl) (fun z => h2 (fun q => z ((i32_le ok_0 (tc hst).1).mpr q)) adr H locs ls cells slots hwf (tc hst).2 hlo hl hP hD hS hn0 hlm hadr hce hsl)
theorem gw_icmp_ge (C : Hr p R s m args c D cA cc own nL A n0 lim) {off a b : Int} {tgt : Nat} (hd : decode cc pc = .ok (.if_icmp .ge off, 3)) (ht : (pc : Int) + off = (tgt : Int)) (h1 : cmpI .ge a b → GW p l e R s m args below meth c D cA nL A n0 adr0 lim Qm tgt L r σ) (h2 : ¬ cmpI .ge a b → GW p l e R s m args below meth c D cA nL A n0 adr0 lim Qm (pc + 3) L r σ) : GW p l e R s m args below meth c D cA nL A n0 adr0 lim Qm pc L (vi b :: vi a :: r) σ := by
  intro adr H locs ls cells slots hwf hst hlo hl hP hD hS hn0 hlm hadr hce hsl
  obtain ⟨hx, hb, hml, hown, hts, hK, hN, hA, hlc, hls⟩ := C
  exact lv_icmp_ge hx hb hd ht (fun z => h1 ((i32_le (tc hst).1 (tc (tc hst).2).1).mp z) adr H locs ls cells slots hwf (tc (tc hst).2).2 hlo hl hP hD hS hn0 hlm hadr hce hsl) (fun z => h2 (fun q => z ((i32_le (tc hst).1 (tc (tc hst).2).1).mpr q)) adr H locs ls cells slots hwf (tc (tc hst).2).2 hlo hl hP hD hS hn0 hlm hadr hce hsl)
theorem gw_if_gt (C : Hr p R s m args c D cA cc own nL A n0 lim) {off a : Int} {tgt : Nat} (hd : decode cc pc = .ok (.ifCond .gt off, 3)) (ht : (pc : Int) + off = (tgt : Int)) (h1 : cmpI .gt a 0 → GW p l e R s m args below meth c D cA nL A n0 adr0 lim Qm tgt L r σ) (h2 : ¬ cmpI .gt a 0 → GW p l e R s m args below meth c D cA nL A n0 adr0 lim Qm (pc + 3) L r σ) : GW p l e R s m args below meth c D cA nL A n0 adr0 lim Qm pc L (vi a :: r) σ := by
  intro adr H locs ls cells slots hwf hst hlo hl hP hD hS hn0 hlm hadr hce hsl
  obtain ⟨hx, hb, hml, hown, hts, hK, hN, hA, hlc, hls⟩ := C
  exact lv_if_gt hx hb hd ht (fun z => h1 ((i32_lt ok_0 (tc hst).1).mp z) adr H locs ls cells slots hwf (tc hst).2 hlo hl hP hD hS hn0 hlm hadr hce hsl) (fun z => h2 (fun q => z ((i32_lt ok_0 (tc hst).1).mpr q)) adr H locs ls cells slots hwf (tc hst).2 hlo hl hP hD hS hn0 hlm hadr hce hsl)
theorem gw_icmp_gt (C : Hr p R s m args c D cA cc own nL A n0 lim) {off a b : Int} {tgt : Nat} (hd : decode cc pc = .ok (.if_icmp .gt off, 3)) (ht : (pc : Int) + off = (tgt : Int)) (h1 : cmpI .gt a b → GW p l e R s m args below meth c D cA nL A n0 adr0 lim Qm tgt L r σ) (h2 : ¬ cmpI .gt a b → GW p l e R s m args below meth c D cA nL A n0 adr0 lim Qm (pc + 3) L r σ) : GW p l e R s m args below meth c D cA nL A n0 adr0 lim Qm pc L (vi b :: vi a :: r) σ := by
  intro adr H locs ls cells slots hwf hst hlo hl hP hD hS hn0 hlm hadr hce hsl
  obtain ⟨hx, hb, hml, hown, hts, hK, hN, hA, hlc, hls⟩ := C
  exact lv_icmp_gt hx hb hd ht (fun z => h1 ((i32_lt (tc hst).1 (tc (tc hst).2).1).mp z) adr H locs ls cells slots hwf (tc (tc hst).2).2 hlo hl hP hD hS hn0 hlm hadr hce hsl) (fun z => h2 (fun q => z ((i32_lt (tc hst).1 (tc (tc hst).2).1).mpr q)) adr H locs ls cells slots hwf (tc (tc hst).2).2 hlo hl hP hD hS hn0 hlm hadr hce hsl)
theorem gw_if_le (C : Hr p R s m args c D cA cc own nL A n0 lim) {off a : Int} {tgt : Nat} (hd : decode cc pc = .ok (.ifCond .le off, 3)) (ht : (pc : Int) + off = (tgt : Int)) (h1 : cmpI .le a 0 → GW p l e R s m args below meth c D cA nL A n0 adr0 lim Qm tgt L r σ) (h2 : ¬ cmpI .le a 0 → GW p l e R s m args below meth c D cA nL A n0 adr0 lim Qm (pc + 3) L r σ) : GW p l e R s m args below meth c D cA nL A n0 adr0 lim Qm pc L (vi a :: r) σ := by
  intro adr H locs ls cells slots hwf hst hlo hl hP hD hS hn0 hlm hadr hce hsl
  obtain ⟨hx, hb, hml, hown, hts, hK, hN, hA, hlc, hls⟩ := C
  exact lv_if_le hx hb hd ht (fun z => h1 ((i32_le (tc hst).1 ok_0).mp z) adr H locs ls cells slots hwf (tc hst).2 hlo hl hP hD hS hn0 hlm hadr hce hsl) (fun z => h2 (fun q => z ((i32_le (tc hst).1 ok_0).mpr q)) adr H locs ls cells slots hwf (tc hst).2 hlo hl hP hD hS hn0 hlm hadr hce hsl)
theorem gw_icmp_le (C : Hr p R s m args c D cA cc own nL A n0 lim) {off a b : Int} {tgt : Nat} (hd : decode cc pc = .ok (.if_icmp .le off, 3)) (ht : (pc : Int) + off = (tgt : Int)) (h1 : cmpI .le a b → GW p l e R s m args below meth c D cA nL A n0 adr0 lim Qm tgt L r σ) (h2 : ¬ cmpI .le a b → GW p l e R s m args below meth c D cA nL A n0 adr0 lim Qm (pc + 3) L r σ) : GW p l e R s m args below meth c D cA nL A n0 adr0 lim Qm pc L (vi b :: vi a :: r) σ := by
  intro adr H locs ls cells slots hwf hst hlo hl hP hD hS hn0 hlm hadr hce hsl
  obtain ⟨hx, hb, hml, hown, hts, hK, hN, hA, hlc, hls⟩ := C
  exact lv_icmp_le hx hb hd ht (fun z => h1 ((i32_le (tc (tc hst).2).1 (tc hst).1).mp z) adr H locs ls cells slots hwf (tc (tc hst).2).2 hlo hl hP hD hS hn0 hlm hadr hce hsl) (fun z => h2 (fun q => z ((i32_le (tc (tc hst).2).1 (tc hst).1).mpr q)) adr H locs ls cells slots hwf (tc (tc hst).2).2 hlo hl hP hD hS hn0 hlm hadr hce hsl)
end ARMS
