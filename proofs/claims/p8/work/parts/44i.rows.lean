/-! ===== rows filled, rows copied ===== -/
def FL (Z : ZT) (o : Nat) (c v : Int) : Prop := ∀ k : Nat, (k : Int) < v → Z o k = c
theorem FL_up {Z Z' : ZT} {o : Nat} {c v a : Int} (hu : Z' = upZ Z o v.toNat a) (h : FL Z o c v) (ha : a = c) (h0 : 0 ≤ v) : FL Z' o c (v + 1) := fun k hk => by
  rw [hu]
  by_cases hq : k = v.toNat
  · rw [hq, up_eq, ha]
  · rw [up_nk hq]
    exact h k (by omega)
theorem FL_o {Z Z' : ZT} {o : Nat} {c v : Int} (e : Z' o = Z o) (h : FL Z o c v) : FL Z' o c v := fun k hk => by rw [e]; exact h k hk
theorem FL_0 {Z : ZT} {o : Nat} {c v : Int} (hv : v ≤ 0) : FL Z o c v := fun k hk => by omega
theorem FL_m {Z : ZT} {o : Nat} {c v v' : Int} (h : FL Z o c v) (hv : v' ≤ v) : FL Z o c v' := fun k hk => h k (by omega)
def CY (Z Z0 : ZT) (d s : Nat) (v : Int) : Prop := ∀ k : Nat, (k : Int) < v → Z d k = Z0 s k
theorem CY_up {Z Z' Z0 : ZT} {d s : Nat} {v a : Int} (hu : Z' = upZ Z d v.toNat a) (h : CY Z Z0 d s v) (ha : a = Z0 s v.toNat) (h0 : 0 ≤ v) : CY Z' Z0 d s (v + 1) := fun k hk => by
  rw [hu]
  by_cases hq : k = v.toNat
  · rw [hq, up_eq, ha]
  · rw [up_nk hq]
    exact h k (by omega)
theorem CY_o {Z Z' Z0 : ZT} {d s : Nat} {v : Int} (e : Z' d = Z d) (h : CY Z Z0 d s v) : CY Z' Z0 d s v := fun k hk => by rw [e]; exact h k hk
theorem CY_0 {Z Z0 : ZT} {d s : Nat} {v : Int} (hv : v ≤ 0) : CY Z Z0 d s v := fun k hk => by omega
theorem CY_m {Z Z0 : ZT} {d s : Nat} {v v' : Int} (h : CY Z Z0 d s v) (hv : v' ≤ v) : CY Z Z0 d s v' := fun k hk => h k (by omega)
theorem kp_out {S : List Nat} {Z Z' : ZT} {lo hi : Nat} (h : kp S Z Z') (hS : S.all (fun e => Nat.blt (e % 1000) lo || Nat.blt hi (e % 1000)) = true) (hh : hi < 1000) : ∀ o, lo ≤ o → o ≤ hi → Z' o = Z o := fun o h1 h2 => funext fun k => by
  refine h o k (by omega) (fun z => ?_) (fun z => ?_)
  · have w := (Bool.or_eq_true _ _).mp (List.all_eq_true.mp hS _ z)
    rcases w with w | w
    · have := Nat.le_of_ble_eq_true w
      omega
    · have := Nat.le_of_ble_eq_true w
      omega
  · have w := (Bool.or_eq_true _ _).mp (List.all_eq_true.mp hS _ z)
    rcases w with w | w
    · have := Nat.le_of_ble_eq_true w
      omega
    · have := Nat.le_of_ble_eq_true w
      omega
theorem ks_av {S : List Nat} {Z Z' : ZT} {o : Nat} (h : keeps S Z Z') (hS : (!(S.elem o)) = true) : Z' o = Z o := h o (by simpa using hS)
