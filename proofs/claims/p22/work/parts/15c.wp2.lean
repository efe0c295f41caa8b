/-! ===== several steps at once, with a name for each number that is read and each heap that is written ===== -/
def isLd (i : Instr) : Bool := match i with
  | .getfield _ => true
  | .iaload => true
  | .laload => true
  | .baload => true
  | _ => false
def isSt (i : Instr) : Bool := match i with
  | .putfield _ => true
  | .iastore => true
  | .lastore => true
  | .bastore => true
  | .invokevirtual _ => true
  | .invokestatic _ => true
  | _ => false
def absT (b : Bool) (st : List PV) (K : List PV → Prop) : Prop := match b with
  | true => match st with
    | .inl a :: r => ∀ x : Int, x = a → K (vi x :: r)
    | .inr (.inl a) :: r => ∀ x : Int, x = a → K (vl x :: r)
    | _ => K st
  | false => K st
def absS (n : Nat) (R : Nat → Nat → Nat) (b : Bool) (σ : St) (K : St → Prop) : Prop := match b with
  | true => (σ.1 = n ∧ σ.2.2 = R) ∧ ∀ Z1 : ZT, Z1 = σ.2.1 → K (n, Z1, R)
  | false => K σ
theorem absT_of {b : Bool} {st : List PV} {K : List PV → Prop} (h : absT b st K) : K st := by
  cases b with
  | false => exact h
  | true =>
    rcases st with _ | ⟨a | a | a, r⟩
    · exact h
    · exact h a rfl
    · exact h a rfl
    · exact h
theorem absS_of {n : Nat} {R : Nat → Nat → Nat} {b : Bool} {σ : St} {K : St → Prop} (h : absS n R b σ K) : K σ := by
  cases b with
  | false => exact h
  | true =>
    obtain ⟨⟨h1, h2⟩, h3⟩ := h
    subst h1
    subst h2
    exact h3 σ.2.1 rfl
def frcV (v : PV) (K : PV → Prop) : Prop := match v with
  | .inl a => K (vi a)
  | .inr (.inl a) => K (vl a)
  | .inr (.inr o) => K (vr o)
def frcS (st : List PV) (K : List PV → Prop) : Prop := match st with
  | [] => K []
  | v :: t => frcV v (fun v' => frcS t (fun t' => K (v' :: t')))
def frcL (l : LoT) (K : LoT → Prop) : Prop := match l with
  | [] => K []
  | (j, v) :: t => frcV v (fun v' => frcL t (fun t' => K ((j, v') :: t')))
theorem frcV_eq (v : PV) (K : PV → Prop) : frcV v K = K v := by
  rcases v with a | a | a <;> rfl
theorem frcS_eq : ∀ (st : List PV) (K : List PV → Prop), frcS st K = K st
  | [], _ => rfl
  | v :: t, K => (frcV_eq v _).trans (frcS_eq t _)
theorem frcL_eq : ∀ (l : LoT) (K : LoT → Prop), frcL l K = K l
  | [], _ => rfl
  | (_, v) :: t, K => (frcV_eq v _).trans (frcL_eq t _)
def wq (M : Mc) (lim : Nat) (scr : Scr) (Q : Option PV → St → Prop) (G : GT) (nn : Nat) (RR : Nat → Nat → Nat) (stops : List Nat) (n : Nat) : GT := match n with
  | 0 => G
  | k + 1 => fun pc l st σ => match tabAt M.1 pc with
    | some (i, nx, tg) => stepI M.2.1 (spAt M.2.2.1) M.2.2.2.1 M.2.2.2.2.1 M.2.2.2.2.2 lim scr Q (fun pc' l' st' σ' => absT (isLd i) st' (fun st2 => absS nn RR (isSt i) σ' (fun σ2 => frcL l' (fun l3 => frcS st2 (fun st3 => bif elemN stops pc' then G pc' l3 st3 σ2 else wq M lim scr Q G nn RR stops k pc' l3 st3 σ2))))) nx tg i l st σ
    | none => False
theorem wq_run {M : Mc} {lim : Nat} {scr : Scr} {Q : Option PV → St → Prop} {G : GT} (hG : Clo M lim scr Q G) (nn : Nat) (RR : Nat → Nat → Nat) (stops : List Nat) : ∀ (k pc : Nat) (L : LoT) (st : List PV) (σ : St), wq M lim scr Q G nn RR stops k pc L st σ → G pc L st σ
  | 0, _, _, _, _, h => h
  | k + 1, pc, L, st, σ, h => by
    refine hG.1 pc L st σ ?_
    unfold wq at h
    unfold stepM
    split at h
    · rename_i i nx tg he
      rw [he]
      refine stepI_mono (fun pc' L' st' σ' h2 => ?_) h
      have h3 := absS_of (absT_of h2)
      rw [frcL_eq, frcS_eq] at h3
      cases hs : elemN stops pc' with
      | true => rw [hs] at h3; exact h3
      | false => rw [hs] at h3; exact wq_run hG nn RR stops k pc' L' st' σ' h3
    · exact h.elim
theorem ld_bnd {Z : ZT} {o k : Nat} {lo hi : Int} {K : Int → Prop} (hI : CI Z) (hb : bnd o k = some (lo, hi)) (h : ∀ x, lo ≤ x → x ≤ hi → x = Z o k → K x) : ∀ x, x = Z o k → K x := fun x e => h x (by rw [e]; exact (hI o k lo hi hb).1) (by rw [e]; exact (hI o k lo hi hb).2) e
theorem st_bnd {Z0 Z : ZT} {o k : Nat} {a : Int} {K : ZT → Prop} {S : List Nat} (hI : CI Z) (hk : keeps S Z0 Z) (ho : o ∈ S) (ha : ∀ lo hi : Int, bnd o k = some (lo, hi) → lo ≤ a ∧ a ≤ hi) (h : ∀ Z1, CI Z1 → keeps S Z0 Z1 → Z1 = upZ Z o k a → K Z1) : ∀ Z1, Z1 = upZ Z o k a → K Z1 := fun Z1 e => h Z1 (by rw [e]; exact ci_up hI ha) (by rw [e]; exact keeps_up hk ho) e
theorem wI_aft {S : List PV → List Nat} {lo hi : Int} {as : List PV} {σ : St} {K : Option PV → St → Prop} {S0 : List Nat} {Z0 : ZT} (hk : keeps S0 Z0 σ.2.1) (hS : (S as).all (fun o => S0.elem o) = true) (h : ∀ (Z' : ZT) (x : Int), CI Z' → keeps S0 Z0 Z' → keeps (S as) σ.2.1 Z' → lo ≤ x → x ≤ hi → K (some (vi x)) (σ.1, Z', R0)) : ∀ (r : Option PV) (σ' : St), postI S lo hi as σ r σ' → K r σ' := by
  rintro r σ' ⟨Z', x, rfl, rfl, h1, h2, h3, h4⟩
  exact h Z' x h1 (keeps_trans hk (keeps_mono (fun o ho => by simpa using List.all_eq_true.mp hS o ho) h2)) h2 h3 h4
theorem wU_aft {S : List PV → List Nat} {as : List PV} {σ : St} {K : Option PV → St → Prop} {S0 : List Nat} {Z0 : ZT} (hk : keeps S0 Z0 σ.2.1) (hS : (S as).all (fun o => S0.elem o) = true) (h : ∀ (Z' : ZT) (x : Int), CI Z' → keeps S0 Z0 Z' → keeps (S as) σ.2.1 Z' → K (some (vi x)) (σ.1, Z', R0)) : ∀ (r : Option PV) (σ' : St), postU S as σ r σ' → K r σ' := by
  rintro r σ' ⟨Z', x, rfl, rfl, h1, h2⟩
  exact h Z' x h1 (keeps_trans hk (keeps_mono (fun o ho => by simpa using List.all_eq_true.mp hS o ho) h2)) h2
theorem wL_aft {S : List PV → List Nat} {as : List PV} {σ : St} {K : Option PV → St → Prop} {S0 : List Nat} {Z0 : ZT} (hk : keeps S0 Z0 σ.2.1) (hS : (S as).all (fun o => S0.elem o) = true) (h : ∀ (Z' : ZT) (x : Int), CI Z' → keeps S0 Z0 Z' → keeps (S as) σ.2.1 Z' → K (some (vl x)) (σ.1, Z', R0)) : ∀ (r : Option PV) (σ' : St), postL S as σ r σ' → K r σ' := by
  rintro r σ' ⟨Z', x, rfl, rfl, h1, h2⟩
  exact h Z' x h1 (keeps_trans hk (keeps_mono (fun o ho => by simpa using List.all_eq_true.mp hS o ho) h2)) h2
theorem wV_aft {S : List PV → List Nat} {as : List PV} {σ : St} {K : Option PV → St → Prop} {S0 : List Nat} {Z0 : ZT} (hk : keeps S0 Z0 σ.2.1) (hS : (S as).all (fun o => S0.elem o) = true) (h : ∀ (Z' : ZT), CI Z' → keeps S0 Z0 Z' → keeps (S as) σ.2.1 Z' → K (none) (σ.1, Z', R0)) : ∀ (r : Option PV) (σ' : St), postV S as σ r σ' → K r σ' := by
  rintro r σ' ⟨Z', rfl, rfl, h1, h2⟩
  exact h Z' h1 (keeps_trans hk (keeps_mono (fun o ho => by simpa using List.all_eq_true.mp hS o ho) h2)) h2
theorem keeps_nil {Z Z' : ZT} (h : keeps [] Z Z') : Z' = Z := funext fun o => h o (fun q => by cases q)
theorem keeps_to {S S0 : List Nat} {Z0 Z Z' : ZT} (hk : keeps S0 Z0 Z) (hS : S.all (fun o => S0.elem o) = true) (h2 : keeps S Z Z') : keeps S0 Z0 Z' := keeps_trans hk (keeps_mono (fun o ho => by simpa using List.all_eq_true.mp hS o ho) h2)
theorem mulR {a b : Int} (h1 : 1 ≤ a) (h2 : a ≤ 6) (h3 : 1 ≤ b) (h4 : b ≤ 6) : 1 ≤ w32 (a * b) ∧ w32 (a * b) ≤ 36 := by
  have : a = 1 ∨ a = 2 ∨ a = 3 ∨ a = 4 ∨ a = 5 ∨ a = 6 := by omega
  rcases this with rfl | rfl | rfl | rfl | rfl | rfl <;> (rw [w32_id (by omega) (by omega)]; omega)
