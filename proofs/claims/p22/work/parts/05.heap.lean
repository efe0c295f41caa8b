/-! ===== memory, calls, the ends ===== -/
theorem fK0 : (fK 0).1 = 99 := rfl
theorem pos_i {o t : Nat} (h : (fK o).1 = t) (ht : t ≠ 99) : 0 < o := by
  rcases Nat.eq_zero_or_pos o with q | q
  · subst q
    rw [fK0] at h
    exact absurd h.symm ht
  · exact q
theorem fv_i {adr : Nat → Nat} {z : Nat → Int} {w : Nat → Nat} {ci k : Nat} (h : fkR ci k = false) : fv adr z w ci k = .int (Int32.ofInt (z k)) := by unfold fv; rw [h]; rfl
theorem fv_r {adr : Nat → Nat} {z : Nat → Int} {w : Nat → Nat} {ci k : Nat} (h : fkR ci k = true) (h0 : w k ≠ 0) : fv adr z w ci k = .ref (adr (w k)) := by unfold fv rf; rw [h, if_neg h0]; rfl
theorem wld_z {cA : Nat → ClassId} {adr : Nat → Nat} {σ : St} {o k : Nat} {a : Int} (h0 : 0 < o) : wld cA adr (σ.1, upZ σ.2.1 o k a, σ.2.2) = (wld cA adr σ).set (o - 1) (adr o, cel cA adr (σ.1, upZ σ.2.1 o k a, σ.2.2) o) := wld_set h0 rfl (fun q hq => by
  unfold cel
  dsimp only
  rw [show upZ σ.2.1 o k a q = σ.2.1 q from funext fun j => if_neg (fun z => hq z.1)])
theorem wld_w {cA : Nat → ClassId} {adr : Nat → Nat} {σ : St} {o k : Nat} {a : Nat} (h0 : 0 < o) : wld cA adr (σ.1, σ.2.1, upR σ.2.2 o k a) = (wld cA adr σ).set (o - 1) (adr o, cel cA adr (σ.1, σ.2.1, upR σ.2.2 o k a) o) := wld_set h0 rfl (fun q hq => by
  unfold cel
  dsimp only
  rw [show upR σ.2.2 o k a q = σ.2.2 q from funext fun j => if_neg (fun z => hq z.1)])
theorem wf_z {σ : St} {o k : Nat} {a : Int} (h : WF σ) (h1 : (fK o).1 = 1 → okL a) (h2 : (fK o).1 ≠ 1 → okI a) : WF (σ.1, upZ σ.2.1 o k a, σ.2.2) := by
  refine ⟨fun p q => ?_, h.2⟩
  unfold upZ
  dsimp only
  by_cases hq : p = o ∧ q = k
  · rw [if_pos hq, hq.1]; exact ⟨h1, h2⟩
  · rw [if_neg hq]; exact h.1 p q
theorem wf_w {σ : St} {o k : Nat} {a : Nat} (h : WF σ) (h1 : a ≤ σ.1) : WF (σ.1, σ.2.1, upR σ.2.2 o k a) := by
  refine ⟨h.1, fun p q => ?_⟩
  unfold upR
  dsimp only
  by_cases hq : p = o ∧ q = k
  · rw [if_pos hq]; exact h1
  · rw [if_neg hq]; exact h.2 p q
theorem up32 {f : Nat → Int} {o k : Nat} {a : Int} {Z : Nat → Nat → Int} (hf : f = Z o) : upd (fun j => Int32.ofInt (f j)) k (Int32.ofInt a) = fun j => Int32.ofInt (upZ Z o k a o j) := by
  subst hf
  funext j
  unfold upd upZ
  by_cases hj : j = k
  · rw [if_pos hj, if_pos ⟨rfl, hj⟩]
  · rw [if_neg hj, if_neg (fun z => hj z.2)]
theorem up64 {f : Nat → Int} {o k : Nat} {a : Int} {Z : Nat → Nat → Int} (hf : f = Z o) : vp_updL (fun j => Int64.ofInt (f j)) k (Int64.ofInt a) = fun j => Int64.ofInt (upZ Z o k a o j) := by
  subst hf
  funext j
  unfold vp_updL upZ
  by_cases hj : j = k
  · rw [if_pos hj, if_pos ⟨rfl, hj⟩]
  · rw [if_neg hj, if_neg (fun z => hj z.2)]
theorem upRf {adr : Nat → Nat} {f : Nat → Nat} {o k a : Nat} {Z : Nat → Nat → Nat} (hf : f = Z o) (h0 : a ≠ 0) : va_up (fun j => rf adr (f j)) k (some (adr a)) = fun j => rf adr (upR Z o k a o j) := by
  subst hf
  funext j
  unfold va_up upR
  by_cases hj : j = k
  · rw [if_pos hj, if_pos ⟨rfl, hj⟩, rf, if_neg h0]
  · rw [if_neg hj, if_neg (fun z => hj z.2)]
theorem fs_z {adr : Nat → Nat} {z : Nat → Int} {w : Nat → Nat} {ci k o : Nat} {a : Int} {Z : Nat → Nat → Int} (hz : z = Z o) (hk : k < fN ci) (h : fkR ci k = false) : (List.range (fN ci)).map (fv adr (upZ Z o k a o) w ci) = ((List.range (fN ci)).map (fv adr z w ci)).set k (.int (Int32.ofInt a)) := by
  subst hz
  apply List.ext_getElem?
  intro j
  rw [List.getElem?_set, List.getElem?_map, List.getElem?_map, List.length_map, List.length_range]
  by_cases hj : k = j
  · subst hj
    rw [if_pos rfl, if_pos hk, List.getElem?_range hk, Option.map_some, fv_i h, upZ, if_pos ⟨rfl, rfl⟩]
  · rw [if_neg hj]
    by_cases hl : j < fN ci
    · rw [List.getElem?_range hl, Option.map_some, Option.map_some]
      unfold fv upZ
      rw [if_neg (fun z => hj z.2.symm)]
    · rw [List.getElem?_eq_none (by simpa using hl)]; rfl
theorem upR_at {Z : Nat → Nat → Nat} {o k a : Nat} : upR Z o k a o k = a := if_pos ⟨rfl, rfl⟩
theorem fs_w {adr : Nat → Nat} {z : Nat → Int} {w : Nat → Nat} {ci k o a : Nat} {Z : Nat → Nat → Nat} (hz : w = Z o) (hk : k < fN ci) (h : fkR ci k = true) (h0 : a ≠ 0) : (List.range (fN ci)).map (fv adr z (upR Z o k a o) ci) = ((List.range (fN ci)).map (fv adr z w ci)).set k (.ref (adr a)) := by
  subst hz
  apply List.ext_getElem?
  intro j
  rw [List.getElem?_set, List.getElem?_map, List.getElem?_map, List.length_map, List.length_range]
  by_cases hj : k = j
  · subst hj
    rw [if_pos rfl, if_pos hk, List.getElem?_range hk, Option.map_some, fv_r h (by rw [upR_at]; exact h0), upR_at]
  · rw [if_neg hj]
    by_cases hl : j < fN ci
    · rw [List.getElem?_range hl, Option.map_some, Option.map_some]
      unfold fv upR
      rw [if_neg (fun z => hj z.2.symm)]
    · rw [List.getElem?_eq_none (by simpa using hl)]; rfl
theorem vin {n : Nat} {j : Int} (hj : okI j) (h0 : 0 ≤ j) (hn : j < n) : vp_in (Int32.ofInt j) n := by
  rw [vp_in_iff, i32_t hj]; exact ⟨h0, hn⟩
theorem nclamp {j : Int} (hj : okI j) : (Int32.ofInt j).toNatClampNeg = j.toNat := by
  show (Int32.ofInt j).toInt.toNat = _
  rw [i32_t hj]
theorem nar01 {a : Int} (h : a = 0 ∨ a = 1) : vp_nar .boolean (Int32.ofInt a) = Int32.ofInt a := by rcases h with rfl | rfl <;> rfl
theorem fY_i (ci : Nat) (h : ci < 12) : ∀ k, k < fN ci → fkR ci k = false → fkB ci k = false → fY ci k = .int := by
  match ci, h with
  | 0, _ => exact (by decide +kernel)
  | 1, _ => exact (by decide +kernel)
  | 2, _ => exact (by decide +kernel)
  | 3, _ => exact (by decide +kernel)
  | 4, _ => exact (by decide +kernel)
  | 5, _ => exact (by decide +kernel)
  | 6, _ => exact (by decide +kernel)
  | 7, _ => exact (by decide +kernel)
  | 8, _ => exact (by decide +kernel)
  | 9, _ => exact (by decide +kernel)
  | 10, _ => exact (by decide +kernel)
  | 11, _ => exact (by decide +kernel)
  | k + 12, h => exact absurd h (by omega)
theorem fY_z (ci k : Nat) (h : fkB ci k = true) : fY ci k = .boolean := by
  unfold fkB at h
  split at h
  · assumption
  · cases h
theorem fY_r (ci k : Nat) (h : fkR ci k = true) : (∃ C, fY ci k = .object C) ∨ ∃ t, fY ci k = .array t := by
  unfold fkR at h
  split at h
  · exact Or.inl ⟨_, by assumption⟩
  · exact Or.inr ⟨_, by assumption⟩
  · cases h
theorem nfit_i {ci k : Nat} (h : ci < 12) (hk : k < fN ci) (hr : fkR ci k = false) {a : Int} (ha : bif fkB ci k then a = 0 ∨ a = 1 else True) : narrow (fY ci k) (.int (Int32.ofInt a)) = .int (Int32.ofInt a) ∧ fits (fY ci k) (.int (Int32.ofInt a)) = true := by
  cases hb : fkB ci k with
  | true =>
    rw [hb] at ha
    rw [fY_z ci k hb]
    rcases ha with rfl | rfl <;> exact ⟨rfl, rfl⟩
  | false => rw [fY_i ci h k hk hr hb]; exact ⟨rfl, rfl⟩
theorem nfit_r {ci k : Nat} (hr : fkR ci k = true) {a : Nat} : narrow (fY ci k) (.ref a) = .ref a ∧ fits (fY ci k) (.ref a) = true := by
  rcases fY_r ci k hr with ⟨C, h⟩ | ⟨t, h⟩ <;> rw [h] <;> exact ⟨rfl, rfl⟩
theorem SL_mono {a b : Nat} (h : a ≤ b) : SL a ≤ SL b := by
  induction h with
  | refl => exact Nat.le_refl _
  | step _ ih => exact Nat.le_trans ih (Nat.le_add_right _ _)
def adx (adr : Nat → Nat) (n q : Nat) : Nat → Nat := fun o => if o = n then q else adr o
theorem adx_ne {adr : Nat → Nat} {n q o : Nat} (h : o ≠ n) : adx adr n q o = adr o := if_neg h
theorem adx_eq {adr : Nat → Nat} {n q : Nat} : adx adr n q n = q := if_pos rfl
theorem rl_adx {adr : Nat → Nat} {n q : Nat} {v : PV} (h : okV n v) : rl (adx adr (n + 1) q) v = rl adr v := by
  rcases v with a | a | a
  · rfl
  · rfl
  · show Value.ref _ = Value.ref _
    rw [adx_ne (by have : a ≤ n := h; omega)]
theorem okV_mono {n k : Nat} {v : PV} (hk : n ≤ k) (h : okV n v) : okV k v := by
  rcases v with a | a | a
  · exact h
  · exact h
  · exact Nat.le_trans h hk
theorem celF_adx {cA : Nat → ClassId} {adr : Nat → Nat} {n q o : Nat} {z : Nat → Int} {w : Nat → Nat} (hw : ∀ k, w k ≤ n) : celF cA (adx adr (n + 1) q) z w o = celF cA adr z w o := by
  have e : rf (adx adr (n + 1) q) = fun r => if r = n + 1 then some q else rf adr r := by
    funext r
    unfold rf adx
    by_cases h0 : r = 0
    · subst h0; rw [if_pos rfl, if_neg (by omega), if_pos rfl]
    · rw [if_neg h0]
      by_cases h1 : r = n + 1
      · rw [if_pos h1, if_pos h1]
      · rw [if_neg h1, if_neg h1, if_neg h0]
  have e2 : ∀ k, rf (adx adr (n + 1) q) (w k) = rf adr (w k) := fun k => by
    rw [e]
    exact if_neg (by have := hw k; omega)
  have e3 : fv (adx adr (n + 1) q) z w = fv adr z w := by
    funext ci k
    unfold fv
    rw [e2]
  unfold celF
  rw [e3, show (fun j => rf (adx adr (n + 1) q) (w j)) = fun j => rf adr (w j) from funext e2]
theorem wld_new {cA : Nat → ClassId} {adr : Nat → Nat} {σ : St} {q : Nat} (hw : WF σ) : wld cA (adx adr (σ.1 + 1) q) (σ.1 + 1, zrZ σ.2.1 (σ.1 + 1), zrR σ.2.2 (σ.1 + 1)) = wld cA adr σ ++ [(q, celF cA adr (fun _ => 0) (fun _ => 0) (σ.1 + 1))] := by
  unfold wld
  rw [List.range_succ, List.map_append]
  congr 1
  · apply List.map_congr_left
    intro k hk
    have hk : k < σ.1 := List.mem_range.mp hk
    rw [adx_ne (by omega)]
    congr 1
    unfold cel
    rw [celF_adx (fun j => ?_)]
    · show celF cA adr (zrZ σ.2.1 (σ.1 + 1) (k + 1)) (zrR σ.2.2 (σ.1 + 1) (k + 1)) (k + 1) = _
      rw [show zrZ σ.2.1 (σ.1 + 1) (k + 1) = σ.2.1 (k + 1) from funext fun j => if_neg (by omega), show zrR σ.2.2 (σ.1 + 1) (k + 1) = σ.2.2 (k + 1) from funext fun j => if_neg (by omega)]
    · show zrR σ.2.2 (σ.1 + 1) (k + 1) j ≤ σ.1
      rw [show zrR σ.2.2 (σ.1 + 1) (k + 1) = σ.2.2 (k + 1) from funext fun j => if_neg (by omega)]
      exact hw.2 _ _
  · show [(adx adr (σ.1 + 1) q (σ.1 + 1), _)] = _
    rw [adx_eq]
    congr 2
    unfold cel
    rw [celF_adx (fun j => ?_)]
    · show celF cA adr (zrZ σ.2.1 (σ.1 + 1) (σ.1 + 1)) (zrR σ.2.2 (σ.1 + 1) (σ.1 + 1)) (σ.1 + 1) = _
      rw [show zrZ σ.2.1 (σ.1 + 1) (σ.1 + 1) = fun _ => 0 from funext fun j => if_pos rfl, show zrR σ.2.2 (σ.1 + 1) (σ.1 + 1) = fun _ => 0 from funext fun j => if_pos rfl]
    · show zrR σ.2.2 (σ.1 + 1) (σ.1 + 1) j ≤ σ.1
      rw [show zrR σ.2.2 (σ.1 + 1) (σ.1 + 1) = fun _ => 0 from funext fun j => if_pos rfl]
      exact Nat.zero_le _
theorem wf_new {σ : St} (h : WF σ) : WF (σ.1 + 1, zrZ σ.2.1 (σ.1 + 1), zrR σ.2.2 (σ.1 + 1)) := by
  refine ⟨fun p q => ?_, fun p q => ?_⟩
  · show ((fK p).1 = 1 → okL (zrZ σ.2.1 (σ.1 + 1) p q)) ∧ ((fK p).1 ≠ 1 → okI (zrZ σ.2.1 (σ.1 + 1) p q))
    unfold zrZ
    by_cases hp : p = σ.1 + 1
    · rw [if_pos hp]; exact ⟨fun _ => ⟨by decide, by decide⟩, fun _ => ⟨by decide, by decide⟩⟩
    · rw [if_neg hp]; exact h.1 p q
  · show zrR σ.2.2 (σ.1 + 1) p q ≤ σ.1 + 1
    unfold zrR
    by_cases hp : p = σ.1 + 1
    · rw [if_pos hp]; exact Nat.zero_le _
    · rw [if_neg hp]; exact Nat.le_succ_of_le (h.2 p q)
theorem psum_eq {adr : Nat → Nat} (r : List PV) : ((r.map (rl adr)).map fun v => v.category).sum = psum r := by
  induction r with
  | nil => rfl
  | cons v t ih => rw [List.map_cons, List.map_cons, List.sum_cons, ih, rl_cat]; rfl
section HEAP
variable {p : Program} {l : Launch} {e : Env} {R : Room} {s : State} {m : MethodId} {args : Array Value} {below : List Frame} {meth : Method} {c : Code} {D : va_G} {cA : Nat → ClassId} {nL : Nat} {A : Nat → Prop} {n0 : Nat} {adr0 : Nat → Nat} {lim : Nat} {Qm : State → Prop} {cc : ByteArray} {own : String}
variable {pc : Nat} {L : LoT} {r : List PV} {σ : St}
theorem gw_get_i (C : Hr p R s m args c D cA cc own nL A n0 lim) {n ci k o : Nat} (hd : decode cc pc = .ok (.getfield n, 3)) (hp : ci < 12 ∧ k < fN ci ∧ Cond.fieldLink own n (fR ci) (fT ci k).2.1 (fT ci k).2.2.1 ∈ gtbl) (ho : (fK o).1 = 10 + ci) (hr : fkR ci k = false) (h : GW p l e R s m args below meth c D cA nL A n0 adr0 lim Qm (pc + 3) L (vi (σ.2.1 o k) :: r) σ) : GW p l e R s m args below meth c D cA nL A n0 adr0 lim Qm pc L (vr o :: r) σ := by
  intro adr H locs ls cells slots hwf hst hlo hl hP hD hS hn0 hlm hadr hce hsl
  obtain ⟨hx, hb, hml, hown, hts, hK, hN, hA, hlc, hls⟩ := C
  exact va_get (D := D) (ci := ci) (C := fR ci) (T := fT ci) (N := fN ci) hx hb hts (gt_ws ci hp.1) hown hK hP (o - 1) (fs := (List.range (fN ci)).map (fv adr (σ.2.1 o) (σ.2.2 o) ci)) (by rw [wld_at (pos_i ho (by have := hp.1; omega)) (tc hst).1, cel_o ho]) (cl_at ci hp.1) k hp.2.1 (hts _ hp.2.2) (fun x h9 => by rw [fT_own ci hp.1 k hp.2.1] at h9; exact h9) (v := .int (Int32.ofInt (σ.2.1 o k))) (by rw [List.getElem?_map, List.getElem?_range hp.2.1, Option.map_some, fv_i hr]) hd (h adr H locs ls cells slots hwf (ct (show okI _ from (hwf.1 o k).2 (by rw [ho]; omega)) (tc hst).2) hlo hl hP hD hS hn0 hlm hadr hce hsl)
theorem gw_get_r (C : Hr p R s m args c D cA cc own nL A n0 lim) {n ci k o : Nat} (hd : decode cc pc = .ok (.getfield n, 3)) (hp : ci < 12 ∧ k < fN ci ∧ Cond.fieldLink own n (fR ci) (fT ci k).2.1 (fT ci k).2.2.1 ∈ gtbl) (ho : (fK o).1 = 10 + ci) (hr : fkR ci k = true) (h0 : σ.2.2 o k ≠ 0) (h : GW p l e R s m args below meth c D cA nL A n0 adr0 lim Qm (pc + 3) L (vr (σ.2.2 o k) :: r) σ) : GW p l e R s m args below meth c D cA nL A n0 adr0 lim Qm pc L (vr o :: r) σ := by
  intro adr H locs ls cells slots hwf hst hlo hl hP hD hS hn0 hlm hadr hce hsl
  obtain ⟨hx, hb, hml, hown, hts, hK, hN, hA, hlc, hls⟩ := C
  exact va_get (D := D) (ci := ci) (C := fR ci) (T := fT ci) (N := fN ci) hx hb hts (gt_ws ci hp.1) hown hK hP (o - 1) (fs := (List.range (fN ci)).map (fv adr (σ.2.1 o) (σ.2.2 o) ci)) (by rw [wld_at (pos_i ho (by have := hp.1; omega)) (tc hst).1, cel_o ho]) (cl_at ci hp.1) k hp.2.1 (hts _ hp.2.2) (fun x h9 => by rw [fT_own ci hp.1 k hp.2.1] at h9; exact h9) (v := .ref (adr (σ.2.2 o k))) (by rw [List.getElem?_map, List.getElem?_range hp.2.1, Option.map_some, fv_r hr h0]) hd (h adr H locs ls cells slots hwf (ct (hwf.2 o k) (tc hst).2) hlo hl hP hD hS hn0 hlm hadr hce hsl)
theorem gw_put_i (C : Hr p R s m args c D cA cc own nL A n0 lim) {n ci k o : Nat} {a : Int} (hd : decode cc pc = .ok (.putfield n, 3)) (hp : ci < 12 ∧ k < fN ci ∧ Cond.fieldLink own n (fR ci) (fT ci k).2.1 (fT ci k).2.2.1 ∈ gtbl) (ho : (fK o).1 = 10 + ci) (hr : fkR ci k = false) (hf : ffin ci k = false) (hz : bif fkB ci k then a = 0 ∨ a = 1 else True) (h : GW p l e R s m args below meth c D cA nL A n0 adr0 lim Qm (pc + 3) L r (σ.1, upZ σ.2.1 o k a, σ.2.2)) : GW p l e R s m args below meth c D cA nL A n0 adr0 lim Qm pc L (vi a :: vr o :: r) σ := by
  intro adr H locs ls cells slots hwf hst hlo hl hP hD hS hn0 hlm hadr hce hsl
  obtain ⟨hx, hb, hml, hown, hts, hK, hN, hA, hlc, hls⟩ := C
  have hpos : 0 < o := pos_i ho (by have := hp.1; omega)
  have hon : o ≤ σ.1 := (tc (tc hst).2).1
  refine va_put (D := D) (ci := ci) (C := fR ci) (T := fT ci) (N := fN ci) (ty := fY ci k) (v := .int (Int32.ofInt a)) hx hb hts (gt_ws ci hp.1) (fY ci) (fY_ok ci hp.1) (fT_nm ci hp.1) hown hK hP hD hS (o - 1) (fs := (List.range (fN ci)).map (fv adr (σ.2.1 o) (σ.2.2 o) ci)) (by rw [wld_at hpos hon, cel_o ho]) (cl_at ci hp.1) k hp.2.1 (hts _ hp.2.2) (fun x h9 => by rw [fT_own ci hp.1 k hp.2.1] at h9; exact h9) hf (fY_ok ci hp.1 k hp.2.1) (nfit_i hp.1 hp.2.1 hr hz).1 (nfit_i hp.1 hp.2.1 hr hz).2 (by rw [List.length_map, List.length_range]; exact hp.2.1) hd (fun H1 locs1 hP1 hD1 hS1 => ?_)
  have hc := (show wld cA adr (σ.1, upZ σ.2.1 o k a, σ.2.2) = (wld cA adr σ).set (o - 1) (adr o, .inr (ci, ((List.range (fN ci)).map (fv adr (σ.2.1 o) (σ.2.2 o) ci)).set k (.int (Int32.ofInt a)))) from by rw [wld_z hpos, cel_o ho, fs_z (Z := σ.2.1) rfl hp.2.1 hr])
  rw [← hc] at hP1 hD1
  exact h adr H1 locs1 ls cells slots (wf_z hwf (fun q => by rw [ho] at q; omega) (fun _ => (tc hst).1)) (tc (tc hst).2).2 hlo hl hP1 hD1 hS1 hn0 hlm hadr hce hsl
theorem gw_put_r (C : Hr p R s m args c D cA cc own nL A n0 lim) {n ci k o a : Nat} (hd : decode cc pc = .ok (.putfield n, 3)) (hp : ci < 12 ∧ k < fN ci ∧ Cond.fieldLink own n (fR ci) (fT ci k).2.1 (fT ci k).2.2.1 ∈ gtbl) (ho : (fK o).1 = 10 + ci) (hr : fkR ci k = true) (hf : ffin ci k = false) (h0 : a ≠ 0) (h : GW p l e R s m args below meth c D cA nL A n0 adr0 lim Qm (pc + 3) L r (σ.1, σ.2.1, upR σ.2.2 o k a)) : GW p l e R s m args below meth c D cA nL A n0 adr0 lim Qm pc L (vr a :: vr o :: r) σ := by
  intro adr H locs ls cells slots hwf hst hlo hl hP hD hS hn0 hlm hadr hce hsl
  obtain ⟨hx, hb, hml, hown, hts, hK, hN, hA, hlc, hls⟩ := C
  have hpos : 0 < o := pos_i ho (by have := hp.1; omega)
  have hon : o ≤ σ.1 := (tc (tc hst).2).1
  refine va_put (D := D) (ci := ci) (C := fR ci) (T := fT ci) (N := fN ci) (ty := fY ci k) (v := .ref (adr a)) hx hb hts (gt_ws ci hp.1) (fY ci) (fY_ok ci hp.1) (fT_nm ci hp.1) hown hK hP hD hS (o - 1) (fs := (List.range (fN ci)).map (fv adr (σ.2.1 o) (σ.2.2 o) ci)) (by rw [wld_at hpos hon, cel_o ho]) (cl_at ci hp.1) k hp.2.1 (hts _ hp.2.2) (fun x h9 => by rw [fT_own ci hp.1 k hp.2.1] at h9; exact h9) hf (fY_ok ci hp.1 k hp.2.1) (nfit_r hr).1 (nfit_r hr).2 (by rw [List.length_map, List.length_range]; exact hp.2.1) hd (fun H1 locs1 hP1 hD1 hS1 => ?_)
  have hc := (show wld cA adr (σ.1, σ.2.1, upR σ.2.2 o k a) = (wld cA adr σ).set (o - 1) (adr o, .inr (ci, ((List.range (fN ci)).map (fv adr (σ.2.1 o) (σ.2.2 o) ci)).set k (.ref (adr a)))) from by rw [wld_w hpos, cel_o ho, fs_w (Z := σ.2.2) rfl hp.2.1 hr h0])
  rw [← hc] at hP1 hD1
  exact h adr H1 locs1 ls cells slots (wf_w hwf (tc hst).1) (tc (tc hst).2).2 hlo hl hP1 hD1 hS1 hn0 hlm hadr hce hsl
theorem gw_putF_i (C : Hr p R s m args c D cA cc own nL A n0 lim) {n ci k o : Nat} {a : Int} (hd : decode cc pc = .ok (.putfield n, 3)) (hp : ci < 12 ∧ k < fN ci ∧ Cond.fieldLink own n (fR ci) (fT ci k).2.1 (fT ci k).2.2.1 ∈ gtbl) (ho : (fK o).1 = 10 + ci) (hr : fkR ci k = false) (hf : ffin ci k = true) (hi : fR ci = own ∧ meth.name = "<init>") (hz : bif fkB ci k then a = 0 ∨ a = 1 else True) (h : GW p l e R s m args below meth c D cA nL A n0 adr0 lim Qm (pc + 3) L r (σ.1, upZ σ.2.1 o k a, σ.2.2)) : GW p l e R s m args below meth c D cA nL A n0 adr0 lim Qm pc L (vi a :: vr o :: r) σ := by
  intro adr H locs ls cells slots hwf hst hlo hl hP hD hS hn0 hlm hadr hce hsl
  obtain ⟨hx, hb, hml, hown, hts, hK, hN, hA, hlc, hls⟩ := C
  have hpos : 0 < o := pos_i ho (by have := hp.1; omega)
  have hon : o ≤ σ.1 := (tc (tc hst).2).1
  refine va_putF (D := D) (ci := ci) (C := fR ci) (T := fT ci) (N := fN ci) (ty := fY ci k) (v := .int (Int32.ofInt a)) hx hb hts (gt_ws ci hp.1) (fY ci) (fY_ok ci hp.1) (fT_nm ci hp.1) hown hK hP hD hS (o - 1) (fs := (List.range (fN ci)).map (fv adr (σ.2.1 o) (σ.2.2 o) ci)) (by rw [wld_at hpos hon, cel_o ho]) (cl_at ci hp.1) k hp.2.1 (hts _ hp.2.2) (fun x h9 => by rw [fT_own ci hp.1 k hp.2.1] at h9; exact h9) hf hi.2 ((fT_own ci hp.1 k hp.2.1).trans hi.1) (fY_ok ci hp.1 k hp.2.1) (nfit_i hp.1 hp.2.1 hr hz).1 (nfit_i hp.1 hp.2.1 hr hz).2 (by rw [List.length_map, List.length_range]; exact hp.2.1) hd (fun H1 locs1 hP1 hD1 hS1 => ?_)
  have hc := (show wld cA adr (σ.1, upZ σ.2.1 o k a, σ.2.2) = (wld cA adr σ).set (o - 1) (adr o, .inr (ci, ((List.range (fN ci)).map (fv adr (σ.2.1 o) (σ.2.2 o) ci)).set k (.int (Int32.ofInt a)))) from by rw [wld_z hpos, cel_o ho, fs_z (Z := σ.2.1) rfl hp.2.1 hr])
  rw [← hc] at hP1 hD1
  exact h adr H1 locs1 ls cells slots (wf_z hwf (fun q => by rw [ho] at q; omega) (fun _ => (tc hst).1)) (tc (tc hst).2).2 hlo hl hP1 hD1 hS1 hn0 hlm hadr hce hsl
theorem gw_putF_r (C : Hr p R s m args c D cA cc own nL A n0 lim) {n ci k o a : Nat} (hd : decode cc pc = .ok (.putfield n, 3)) (hp : ci < 12 ∧ k < fN ci ∧ Cond.fieldLink own n (fR ci) (fT ci k).2.1 (fT ci k).2.2.1 ∈ gtbl) (ho : (fK o).1 = 10 + ci) (hr : fkR ci k = true) (hf : ffin ci k = true) (hi : fR ci = own ∧ meth.name = "<init>") (h0 : a ≠ 0) (h : GW p l e R s m args below meth c D cA nL A n0 adr0 lim Qm (pc + 3) L r (σ.1, σ.2.1, upR σ.2.2 o k a)) : GW p l e R s m args below meth c D cA nL A n0 adr0 lim Qm pc L (vr a :: vr o :: r) σ := by
  intro adr H locs ls cells slots hwf hst hlo hl hP hD hS hn0 hlm hadr hce hsl
  obtain ⟨hx, hb, hml, hown, hts, hK, hN, hA, hlc, hls⟩ := C
  have hpos : 0 < o := pos_i ho (by have := hp.1; omega)
  have hon : o ≤ σ.1 := (tc (tc hst).2).1
  refine va_putF (D := D) (ci := ci) (C := fR ci) (T := fT ci) (N := fN ci) (ty := fY ci k) (v := .ref (adr a)) hx hb hts (gt_ws ci hp.1) (fY ci) (fY_ok ci hp.1) (fT_nm ci hp.1) hown hK hP hD hS (o - 1) (fs := (List.range (fN ci)).map (fv adr (σ.2.1 o) (σ.2.2 o) ci)) (by rw [wld_at hpos hon, cel_o ho]) (cl_at ci hp.1) k hp.2.1 (hts _ hp.2.2) (fun x h9 => by rw [fT_own ci hp.1 k hp.2.1] at h9; exact h9) hf hi.2 ((fT_own ci hp.1 k hp.2.1).trans hi.1) (fY_ok ci hp.1 k hp.2.1) (nfit_r hr).1 (nfit_r hr).2 (by rw [List.length_map, List.length_range]; exact hp.2.1) hd (fun H1 locs1 hP1 hD1 hS1 => ?_)
  have hc := (show wld cA adr (σ.1, σ.2.1, upR σ.2.2 o k a) = (wld cA adr σ).set (o - 1) (adr o, .inr (ci, ((List.range (fN ci)).map (fv adr (σ.2.1 o) (σ.2.2 o) ci)).set k (.ref (adr a)))) from by rw [wld_w hpos, cel_o ho, fs_w (Z := σ.2.2) rfl hp.2.1 hr h0])
  rw [← hc] at hP1 hD1
  exact h adr H1 locs1 ls cells slots (wf_w hwf (tc hst).1) (tc (tc hst).2).2 hlo hl hP1 hD1 hS1 hn0 hlm hadr hce hsl
theorem gw_iald (C : Hr p R s m args c D cA cc own nL A n0 lim) {o : Nat} {j : Int} (hd : decode cc pc = .ok (.iaload, 1)) (ho : (fK o).1 = 0) (h0 : 0 ≤ j) (hn : j < (fK o).2) (h : GW p l e R s m args below meth c D cA nL A n0 adr0 lim Qm (pc + 1) L (vi (σ.2.1 o j.toNat) :: r) σ) : GW p l e R s m args below meth c D cA nL A n0 adr0 lim Qm pc L (vi j :: vr o :: r) σ := by
  intro adr H locs ls cells slots hwf hst hlo hl hP hD hS hn0 hlm hadr hce hsl
  obtain ⟨hx, hb, hml, hown, hts, hK, hN, hA, hlc, hls⟩ := C
  have hpos : 0 < o := pos_i ho (by decide)
  have hj : okI j := (tc hst).1
  have k := h adr H locs ls cells slots hwf (ct (show okI _ from (hwf.1 o _).2 (by rw [ho]; decide)) (tc (tc hst).2).2) hlo hl hP hD hS hn0 hlm hadr hce hsl
  refine va_iald hx hb hK hP (o - 1) 0 (by rw [wld_at hpos (tc (tc hst).2).1, cel_i ho]) rfl (vin hj h0 hn) hd ?_
  rw [nclamp hj]
  exact k
theorem gw_lald (C : Hr p R s m args c D cA cc own nL A n0 lim) {o : Nat} {j : Int} (hd : decode cc pc = .ok (.laload, 1)) (ho : (fK o).1 = 1) (h0 : 0 ≤ j) (hn : j < (fK o).2) (h : GW p l e R s m args below meth c D cA nL A n0 adr0 lim Qm (pc + 1) L (vl (σ.2.1 o j.toNat) :: r) σ) : GW p l e R s m args below meth c D cA nL A n0 adr0 lim Qm pc L (vi j :: vr o :: r) σ := by
  intro adr H locs ls cells slots hwf hst hlo hl hP hD hS hn0 hlm hadr hce hsl
  obtain ⟨hx, hb, hml, hown, hts, hK, hN, hA, hlc, hls⟩ := C
  have hpos : 0 < o := pos_i ho (by decide)
  have hj : okI j := (tc hst).1
  have k := h adr H locs ls cells slots hwf (ct (show okL _ from (hwf.1 o _).1 ho) (tc (tc hst).2).2) hlo hl hP hD hS hn0 hlm hadr hce hsl
  refine va_lald hx hb hK hP (o - 1) 1 (by rw [wld_at hpos (tc (tc hst).2).1, cel_l ho]) rfl (vin hj h0 hn) hd ?_
  rw [nclamp hj]
  exact k
theorem gw_zald (C : Hr p R s m args c D cA cc own nL A n0 lim) {o : Nat} {j : Int} (hd : decode cc pc = .ok (.baload, 1)) (ho : (fK o).1 = 2) (h0 : 0 ≤ j) (hn : j < (fK o).2) (h : GW p l e R s m args below meth c D cA nL A n0 adr0 lim Qm (pc + 1) L (vi (σ.2.1 o j.toNat) :: r) σ) : GW p l e R s m args below meth c D cA nL A n0 adr0 lim Qm pc L (vi j :: vr o :: r) σ := by
  intro adr H locs ls cells slots hwf hst hlo hl hP hD hS hn0 hlm hadr hce hsl
  obtain ⟨hx, hb, hml, hown, hts, hK, hN, hA, hlc, hls⟩ := C
  have hpos : 0 < o := pos_i ho (by decide)
  have hj : okI j := (tc hst).1
  have k := h adr H locs ls cells slots hwf (ct (show okI _ from (hwf.1 o _).2 (by rw [ho]; decide)) (tc (tc hst).2).2) hlo hl hP hD hS hn0 hlm hadr hce hsl
  refine va_zald hx hb hK hP (o - 1) 2 (by rw [wld_at hpos (tc (tc hst).2).1, cel_z ho]) rfl (vin hj h0 hn) hd ?_
  rw [nclamp hj]
  exact k
theorem gw_aald (C : Hr p R s m args c D cA cc own nL A n0 lim) {o : Nat} {j : Int} (hd : decode cc pc = .ok (.aaload, 1)) (ho : (fK o).1 = 3) (h0 : 0 ≤ j) (hn : j < (fK o).2) (h1 : σ.2.2 o j.toNat ≠ 0) (h : GW p l e R s m args below meth c D cA nL A n0 adr0 lim Qm (pc + 1) L (vr (σ.2.2 o j.toNat) :: r) σ) : GW p l e R s m args below meth c D cA nL A n0 adr0 lim Qm pc L (vi j :: vr o :: r) σ := by
  intro adr H locs ls cells slots hwf hst hlo hl hP hD hS hn0 hlm hadr hce hsl
  obtain ⟨hx, hb, hml, hown, hts, hK, hN, hA, hlc, hls⟩ := C
  have hpos : 0 < o := pos_i ho (by decide)
  have hj : okI j := (tc hst).1
  have k := h adr H locs ls cells slots hwf (ct (hwf.2 o _) (tc (tc hst).2).2) hlo hl hP hD hS hn0 hlm hadr hce hsl
  refine va_aldq hx hb hK hP (o - 1) 3 (by rw [wld_at hpos (tc (tc hst).2).1, cel_r ho]) rfl (vin hj h0 hn) hd ?_
  rw [nclamp hj, rf, if_neg h1]
  exact k
theorem gw_iast (C : Hr p R s m args c D cA cc own nL A n0 lim) {o : Nat} {j a : Int} (hd : decode cc pc = .ok (.iastore, 1)) (ho : (fK o).1 = 0) (h0 : 0 ≤ j) (hn : j < (fK o).2) (h : GW p l e R s m args below meth c D cA nL A n0 adr0 lim Qm (pc + 1) L r (σ.1, upZ σ.2.1 o j.toNat a, σ.2.2)) : GW p l e R s m args below meth c D cA nL A n0 adr0 lim Qm pc L (vi a :: vi j :: vr o :: r) σ := by
  intro adr H locs ls cells slots hwf hst hlo hl hP hD hS hn0 hlm hadr hce hsl
  obtain ⟨hx, hb, hml, hown, hts, hK, hN, hA, hlc, hls⟩ := C
  have hpos : 0 < o := pos_i ho (by decide)
  have hj : okI j := (tc (tc hst).2).1
  refine va_iast hx hb hK hP hD hS (o - 1) 0 (by rw [wld_at hpos (tc (tc (tc hst).2).2).1, cel_i ho]) rfl (vin hj h0 hn) hd (fun H1 locs1 hP1 hD1 hS1 => ?_)
  rw [nclamp hj, up32 (Z := σ.2.1) rfl] at hP1 hD1
  have hc := wld_z (cA := cA) (adr := adr) (σ := σ) (k := j.toNat) (a := a) hpos
  rw [cel_i ho] at hc
  rw [← hc] at hP1 hD1
  exact h adr H1 locs1 ls cells slots (wf_z hwf (fun q => by rw [ho] at q; cases q) (fun _ => (tc hst).1)) (tc (tc (tc hst).2).2).2 hlo hl hP1 hD1 hS1 hn0 hlm hadr hce hsl
theorem gw_last (C : Hr p R s m args c D cA cc own nL A n0 lim) {o : Nat} {j a : Int} (hd : decode cc pc = .ok (.lastore, 1)) (ho : (fK o).1 = 1) (h0 : 0 ≤ j) (hn : j < (fK o).2) (h : GW p l e R s m args below meth c D cA nL A n0 adr0 lim Qm (pc + 1) L r (σ.1, upZ σ.2.1 o j.toNat a, σ.2.2)) : GW p l e R s m args below meth c D cA nL A n0 adr0 lim Qm pc L (vl a :: vi j :: vr o :: r) σ := by
  intro adr H locs ls cells slots hwf hst hlo hl hP hD hS hn0 hlm hadr hce hsl
  obtain ⟨hx, hb, hml, hown, hts, hK, hN, hA, hlc, hls⟩ := C
  have hpos : 0 < o := pos_i ho (by decide)
  have hj : okI j := (tc (tc hst).2).1
  refine va_last hx hb hK hP hD hS (o - 1) 1 (by rw [wld_at hpos (tc (tc (tc hst).2).2).1, cel_l ho]) rfl (vin hj h0 hn) hd (fun H1 locs1 hP1 hD1 hS1 => ?_)
  rw [nclamp hj, up64 (Z := σ.2.1) rfl] at hP1 hD1
  have hc := wld_z (cA := cA) (adr := adr) (σ := σ) (k := j.toNat) (a := a) hpos
  rw [cel_l ho] at hc
  rw [← hc] at hP1 hD1
  exact h adr H1 locs1 ls cells slots (wf_z hwf (fun _ => (tc hst).1) (fun q => absurd ho q)) (tc (tc (tc hst).2).2).2 hlo hl hP1 hD1 hS1 hn0 hlm hadr hce hsl
theorem gw_zast (C : Hr p R s m args c D cA cc own nL A n0 lim) {o : Nat} {j a : Int} (hd : decode cc pc = .ok (.bastore, 1)) (ho : (fK o).1 = 2) (h0 : 0 ≤ j) (hn : j < (fK o).2) (hz : a = 0 ∨ a = 1) (h : GW p l e R s m args below meth c D cA nL A n0 adr0 lim Qm (pc + 1) L r (σ.1, upZ σ.2.1 o j.toNat a, σ.2.2)) : GW p l e R s m args below meth c D cA nL A n0 adr0 lim Qm pc L (vi a :: vi j :: vr o :: r) σ := by
  intro adr H locs ls cells slots hwf hst hlo hl hP hD hS hn0 hlm hadr hce hsl
  obtain ⟨hx, hb, hml, hown, hts, hK, hN, hA, hlc, hls⟩ := C
  have hpos : 0 < o := pos_i ho (by decide)
  have hj : okI j := (tc (tc hst).2).1
  refine va_zast hx hb hK hP hD hS (o - 1) 2 (by rw [wld_at hpos (tc (tc (tc hst).2).2).1, cel_z ho]) rfl (vin hj h0 hn) hd (fun H1 locs1 hP1 hD1 hS1 => ?_)
  rw [nclamp hj, nar01 hz, up32 (Z := σ.2.1) rfl] at hP1 hD1
  have hc := wld_z (cA := cA) (adr := adr) (σ := σ) (k := j.toNat) (a := a) hpos
  rw [cel_z ho] at hc
  rw [← hc] at hP1 hD1
  exact h adr H1 locs1 ls cells slots (wf_z hwf (fun q => by rw [ho] at q; cases q) (fun _ => (tc hst).1)) (tc (tc (tc hst).2).2).2 hlo hl hP1 hD1 hS1 hn0 hlm hadr hce hsl
theorem gw_aast (C : Hr p R s m args c D cA cc own nL A n0 lim) {o a : Nat} {j : Int} (hd : decode cc pc = .ok (.aastore, 1)) (ho : (fK o).1 = 3) (h0 : 0 ≤ j) (hn : j < (fK o).2) (ha : (fK a).1 = 17) (h : GW p l e R s m args below meth c D cA nL A n0 adr0 lim Qm (pc + 1) L r (σ.1, σ.2.1, upR σ.2.2 o j.toNat a)) : GW p l e R s m args below meth c D cA nL A n0 adr0 lim Qm pc L (vr a :: vi j :: vr o :: r) σ := by
  intro adr H locs ls cells slots hwf hst hlo hl hP hD hS hn0 hlm hadr hce hsl
  obtain ⟨hx, hb, hml, hown, hts, hK, hN, hA, hlc, hls⟩ := C
  have hpos : 0 < o := pos_i ho (by decide)
  have hj : okI j := (tc (tc hst).2).1
  have ha0 : 0 < a := pos_i ha (by decide)
  refine va_astq (r := (fR 7, fT 7, fN 7)) hx hb hK hP hD hS (o - 1) 3 (a - 1) 7 (by rw [wld_at hpos (tc (tc (tc hst).2).2).1, cel_r ho]) rfl (by rw [wld_at ha0 (tc hst).1, cel_o (ci := 7) ha]) (cl_at 7 (by decide)) (vin hj h0 hn) hd (fun H1 locs1 hP1 hD1 hS1 => ?_)
  rw [nclamp hj, upRf (Z := σ.2.2) rfl (by omega)] at hP1 hD1
  have hc := wld_w (cA := cA) (adr := adr) (σ := σ) (k := j.toNat) (a := a) hpos
  rw [cel_r ho] at hc
  rw [← hc] at hP1 hD1
  exact h adr H1 locs1 ls cells slots (wf_w hwf (tc hst).1) (tc (tc (tc hst).2).2).2 hlo hl hP1 hD1 hS1 hn0 hlm hadr hce hsl
theorem gw_alen0 (C : Hr p R s m args c D cA cc own nL A n0 lim) {o : Nat} (hd : decode cc pc = .ok (.arraylength, 1)) (ho : (fK o).1 = 0) (hs : (fK o).2 ≤ 100000) (h : GW p l e R s m args below meth c D cA nL A n0 adr0 lim Qm (pc + 1) L (vi (fK o).2 :: r) σ) : GW p l e R s m args below meth c D cA nL A n0 adr0 lim Qm pc L (vr o :: r) σ := by
  intro adr H locs ls cells slots hwf hst hlo hl hP hD hS hn0 hlm hadr hce hsl
  obtain ⟨hx, hb, hml, hown, hts, hK, hN, hA, hlc, hls⟩ := C
  have hpos : 0 < o := pos_i ho (by decide)
  exact va_alen (v := Int32.ofInt (fK o).2) hx hb hK hP (o - 1) 0 (by rw [wld_at hpos (tc hst).1, cel_i ho]) rfl (Int32.ofInt_eq_ofNat).symm hd (h adr H locs ls cells slots hwf (ct (show okI _ from ⟨by omega, by omega⟩) (tc hst).2) hlo hl hP hD hS hn0 hlm hadr hce hsl)
theorem gw_alen1 (C : Hr p R s m args c D cA cc own nL A n0 lim) {o : Nat} (hd : decode cc pc = .ok (.arraylength, 1)) (ho : (fK o).1 = 1) (hs : (fK o).2 ≤ 100000) (h : GW p l e R s m args below meth c D cA nL A n0 adr0 lim Qm (pc + 1) L (vi (fK o).2 :: r) σ) : GW p l e R s m args below meth c D cA nL A n0 adr0 lim Qm pc L (vr o :: r) σ := by
  intro adr H locs ls cells slots hwf hst hlo hl hP hD hS hn0 hlm hadr hce hsl
  obtain ⟨hx, hb, hml, hown, hts, hK, hN, hA, hlc, hls⟩ := C
  have hpos : 0 < o := pos_i ho (by decide)
  exact va_alen (v := Int32.ofInt (fK o).2) hx hb hK hP (o - 1) 1 (by rw [wld_at hpos (tc hst).1, cel_l ho]) rfl (Int32.ofInt_eq_ofNat).symm hd (h adr H locs ls cells slots hwf (ct (show okI _ from ⟨by omega, by omega⟩) (tc hst).2) hlo hl hP hD hS hn0 hlm hadr hce hsl)
theorem gw_alen2 (C : Hr p R s m args c D cA cc own nL A n0 lim) {o : Nat} (hd : decode cc pc = .ok (.arraylength, 1)) (ho : (fK o).1 = 2) (hs : (fK o).2 ≤ 100000) (h : GW p l e R s m args below meth c D cA nL A n0 adr0 lim Qm (pc + 1) L (vi (fK o).2 :: r) σ) : GW p l e R s m args below meth c D cA nL A n0 adr0 lim Qm pc L (vr o :: r) σ := by
  intro adr H locs ls cells slots hwf hst hlo hl hP hD hS hn0 hlm hadr hce hsl
  obtain ⟨hx, hb, hml, hown, hts, hK, hN, hA, hlc, hls⟩ := C
  have hpos : 0 < o := pos_i ho (by decide)
  exact va_alen (v := Int32.ofInt (fK o).2) hx hb hK hP (o - 1) 2 (by rw [wld_at hpos (tc hst).1, cel_z ho]) rfl (Int32.ofInt_eq_ofNat).symm hd (h adr H locs ls cells slots hwf (ct (show okI _ from ⟨by omega, by omega⟩) (tc hst).2) hlo hl hP hD hS hn0 hlm hadr hce hsl)
theorem gw_alen3 (C : Hr p R s m args c D cA cc own nL A n0 lim) {o : Nat} (hd : decode cc pc = .ok (.arraylength, 1)) (ho : (fK o).1 = 3) (hs : (fK o).2 ≤ 100000) (h : GW p l e R s m args below meth c D cA nL A n0 adr0 lim Qm (pc + 1) L (vi (fK o).2 :: r) σ) : GW p l e R s m args below meth c D cA nL A n0 adr0 lim Qm pc L (vr o :: r) σ := by
  intro adr H locs ls cells slots hwf hst hlo hl hP hD hS hn0 hlm hadr hce hsl
  obtain ⟨hx, hb, hml, hown, hts, hK, hN, hA, hlc, hls⟩ := C
  have hpos : 0 < o := pos_i ho (by decide)
  exact va_alen (v := Int32.ofInt (fK o).2) hx hb hK hP (o - 1) 3 (by rw [wld_at hpos (tc hst).1, cel_r ho]) rfl (Int32.ofInt_eq_ofNat).symm hd (h adr H locs ls cells slots hwf (ct (show okI _ from ⟨by omega, by omega⟩) (tc hst).2) hlo hl hP hD hS hn0 hlm hadr hce hsl)
theorem gw_newa_int (C : Hr p R s m args c D cA cc own nL A n0 lim) {n : Int} (hd : decode cc pc = .ok (.newarray .int, 2)) (hw : Cond.arrayClass .int ∈ gtbl) (hk : fK (σ.1 + 1) = (0, n.toNat)) (h0 : 0 ≤ n) (h1 : n ≤ 10000) (hlim : σ.1 + 1 ≤ lim) (h : GW p l e R s m args below meth c D cA nL A n0 adr0 lim Qm (pc + 2) L (vr (σ.1 + 1) :: r) (σ.1 + 1, zrZ σ.2.1 (σ.1 + 1), zrR σ.2.2 (σ.1 + 1))) : GW p l e R s m args below meth c D cA nL A n0 adr0 lim Qm pc L (vi n :: r) σ := by
  intro adr H locs ls cells slots hwf hst hlo hl hP hD hS hn0 hlm hadr hce hsl
  obtain ⟨hx, hb, hml, hown, hts, hK, hN, hA, hlc, hls⟩ := C
  have hsm := SL_mono hlim
  have hss : SL (σ.1 + 1) = SL σ.1 + szo (σ.1 + 1) := rfl
  have hz : szo (σ.1 + 1) = n.toNat := by unfold szo; rw [hk]; rfl
  have hk2 : (fK (σ.1 + 1)).2 = n.toNat := by rw [hk]
  have hn : okI n := ⟨by omega, by omega⟩
  refine va_newa (atype := .int) (ty := .int) (a0 := ((fK (σ.1 + 1)).2, .inl (fun _ => 0))) (N' := n.toNat) hx hb (hts _ hw) rfl hK hP hD hS hA (fun cA => by rw [hk2]; rfl) (by show ¬ _ < Int32.ofInt 0; rw [i32_lt hn ok_0]; omega) (nclamp hn) (by show n.toNat * _ ≤ _; simp only [componentBytes]; omega) (by omega) (by omega) hd (fun q cB H1 hK1 hP1 hD1 hS1 => ?_)
  have hcc : cB = cA 0 := Option.some.inj (((hK1.2 4 _ rfl).2 : s.vm.findClass _ = some cB).symm.trans ((hK.2 0 _ rfl).2 : s.vm.findClass _ = some (cA 0)))
  subst hcc
  have hc := wld_new (cA := cA) (adr := adr) (q := q) hwf
  rw [show celF cA adr (fun _ => 0) (fun _ => 0) (σ.1 + 1) = .inl (cA 0, ((fK (σ.1 + 1)).2, .inl (fun _ => 0))) from by unfold celF; rw [show (fK (σ.1 + 1)).1 = 0 from by rw [hk]]; rfl] at hc
  rw [← hc] at hP1 hD1
  rw [← hz]
  have k := h (adx adr (σ.1 + 1) q) H1 locs ls (cells + 1) (slots + szo (σ.1 + 1)) (wf_new hwf) (ct (show σ.1 + 1 ≤ σ.1 + 1 from Nat.le_refl _) (fun v hv => okV_mono (Nat.le_succ _) ((tc hst).2 v hv))) (fun v hv => okV_mono (Nat.le_succ _) (hlo v hv)) (by rw [List.map_congr_left (fun v hv => by rw [rl_adx (hlo v hv)])]; exact hl) hP1 hD1 hS1 (by omega) hlim (fun o ho => by rw [adx_ne (by omega)]; exact hadr o ho) (by show cells + 1 + n0 = σ.1 + 1; omega) (by show slots + szo (σ.1 + 1) + SL n0 = SL σ.1 + szo (σ.1 + 1); omega)
  rw [List.map_cons, show rl (adx adr (σ.1 + 1) q) (vr (σ.1 + 1)) = .ref q from by show Value.ref _ = _; rw [adx_eq], List.map_congr_left (fun v hv => rl_adx ((tc hst).2 v hv))] at k
  exact k
theorem gw_newa_long (C : Hr p R s m args c D cA cc own nL A n0 lim) {n : Int} (hd : decode cc pc = .ok (.newarray .long, 2)) (hw : Cond.arrayClass .long ∈ gtbl) (hk : fK (σ.1 + 1) = (1, n.toNat)) (h0 : 0 ≤ n) (h1 : n ≤ 10000) (hlim : σ.1 + 1 ≤ lim) (h : GW p l e R s m args below meth c D cA nL A n0 adr0 lim Qm (pc + 2) L (vr (σ.1 + 1) :: r) (σ.1 + 1, zrZ σ.2.1 (σ.1 + 1), zrR σ.2.2 (σ.1 + 1))) : GW p l e R s m args below meth c D cA nL A n0 adr0 lim Qm pc L (vi n :: r) σ := by
  intro adr H locs ls cells slots hwf hst hlo hl hP hD hS hn0 hlm hadr hce hsl
  obtain ⟨hx, hb, hml, hown, hts, hK, hN, hA, hlc, hls⟩ := C
  have hsm := SL_mono hlim
  have hss : SL (σ.1 + 1) = SL σ.1 + szo (σ.1 + 1) := rfl
  have hz : szo (σ.1 + 1) = n.toNat := by unfold szo; rw [hk]; rfl
  have hk2 : (fK (σ.1 + 1)).2 = n.toNat := by rw [hk]
  have hn : okI n := ⟨by omega, by omega⟩
  refine va_newa (atype := .long) (ty := .long) (a0 := ((fK (σ.1 + 1)).2, .inr (.inl (fun _ => 0)))) (N' := n.toNat) hx hb (hts _ hw) rfl hK hP hD hS hA (fun cA => by rw [hk2]; rfl) (by show ¬ _ < Int32.ofInt 0; rw [i32_lt hn ok_0]; omega) (nclamp hn) (by show n.toNat * _ ≤ _; simp only [componentBytes]; omega) (by omega) (by omega) hd (fun q cB H1 hK1 hP1 hD1 hS1 => ?_)
  have hcc : cB = cA 1 := Option.some.inj (((hK1.2 4 _ rfl).2 : s.vm.findClass _ = some cB).symm.trans ((hK.2 1 _ rfl).2 : s.vm.findClass _ = some (cA 1)))
  subst hcc
  have hc := wld_new (cA := cA) (adr := adr) (q := q) hwf
  rw [show celF cA adr (fun _ => 0) (fun _ => 0) (σ.1 + 1) = .inl (cA 1, ((fK (σ.1 + 1)).2, .inr (.inl (fun _ => 0)))) from by unfold celF; rw [show (fK (σ.1 + 1)).1 = 1 from by rw [hk]]; rfl] at hc
  rw [← hc] at hP1 hD1
  rw [← hz]
  have k := h (adx adr (σ.1 + 1) q) H1 locs ls (cells + 1) (slots + szo (σ.1 + 1)) (wf_new hwf) (ct (show σ.1 + 1 ≤ σ.1 + 1 from Nat.le_refl _) (fun v hv => okV_mono (Nat.le_succ _) ((tc hst).2 v hv))) (fun v hv => okV_mono (Nat.le_succ _) (hlo v hv)) (by rw [List.map_congr_left (fun v hv => by rw [rl_adx (hlo v hv)])]; exact hl) hP1 hD1 hS1 (by omega) hlim (fun o ho => by rw [adx_ne (by omega)]; exact hadr o ho) (by show cells + 1 + n0 = σ.1 + 1; omega) (by show slots + szo (σ.1 + 1) + SL n0 = SL σ.1 + szo (σ.1 + 1); omega)
  rw [List.map_cons, show rl (adx adr (σ.1 + 1) q) (vr (σ.1 + 1)) = .ref q from by show Value.ref _ = _; rw [adx_eq], List.map_congr_left (fun v hv => rl_adx ((tc hst).2 v hv))] at k
  exact k
theorem gw_newa_bool (C : Hr p R s m args c D cA cc own nL A n0 lim) {n : Int} (hd : decode cc pc = .ok (.newarray .boolean, 2)) (hw : Cond.arrayClass .boolean ∈ gtbl) (hk : fK (σ.1 + 1) = (2, n.toNat)) (h0 : 0 ≤ n) (h1 : n ≤ 10000) (hlim : σ.1 + 1 ≤ lim) (h : GW p l e R s m args below meth c D cA nL A n0 adr0 lim Qm (pc + 2) L (vr (σ.1 + 1) :: r) (σ.1 + 1, zrZ σ.2.1 (σ.1 + 1), zrR σ.2.2 (σ.1 + 1))) : GW p l e R s m args below meth c D cA nL A n0 adr0 lim Qm pc L (vi n :: r) σ := by
  intro adr H locs ls cells slots hwf hst hlo hl hP hD hS hn0 hlm hadr hce hsl
  obtain ⟨hx, hb, hml, hown, hts, hK, hN, hA, hlc, hls⟩ := C
  have hsm := SL_mono hlim
  have hss : SL (σ.1 + 1) = SL σ.1 + szo (σ.1 + 1) := rfl
  have hz : szo (σ.1 + 1) = n.toNat := by unfold szo; rw [hk]; rfl
  have hk2 : (fK (σ.1 + 1)).2 = n.toNat := by rw [hk]
  have hn : okI n := ⟨by omega, by omega⟩
  refine va_newa (atype := .boolean) (ty := .boolean) (a0 := ((fK (σ.1 + 1)).2, .inl (fun _ => 0))) (N' := n.toNat) hx hb (hts _ hw) rfl hK hP hD hS hA (fun cA => by rw [hk2]; rfl) (by show ¬ _ < Int32.ofInt 0; rw [i32_lt hn ok_0]; omega) (nclamp hn) (by show n.toNat * _ ≤ _; simp only [componentBytes]; omega) (by omega) (by omega) hd (fun q cB H1 hK1 hP1 hD1 hS1 => ?_)
  have hcc : cB = cA 2 := Option.some.inj (((hK1.2 4 _ rfl).2 : s.vm.findClass _ = some cB).symm.trans ((hK.2 2 _ rfl).2 : s.vm.findClass _ = some (cA 2)))
  subst hcc
  have hc := wld_new (cA := cA) (adr := adr) (q := q) hwf
  rw [show celF cA adr (fun _ => 0) (fun _ => 0) (σ.1 + 1) = .inl (cA 2, ((fK (σ.1 + 1)).2, .inl (fun _ => 0))) from by unfold celF; rw [show (fK (σ.1 + 1)).1 = 2 from by rw [hk]]; rfl] at hc
  rw [← hc] at hP1 hD1
  rw [← hz]
  have k := h (adx adr (σ.1 + 1) q) H1 locs ls (cells + 1) (slots + szo (σ.1 + 1)) (wf_new hwf) (ct (show σ.1 + 1 ≤ σ.1 + 1 from Nat.le_refl _) (fun v hv => okV_mono (Nat.le_succ _) ((tc hst).2 v hv))) (fun v hv => okV_mono (Nat.le_succ _) (hlo v hv)) (by rw [List.map_congr_left (fun v hv => by rw [rl_adx (hlo v hv)])]; exact hl) hP1 hD1 hS1 (by omega) hlim (fun o ho => by rw [adx_ne (by omega)]; exact hadr o ho) (by show cells + 1 + n0 = σ.1 + 1; omega) (by show slots + szo (σ.1 + 1) + SL n0 = SL σ.1 + szo (σ.1 + 1); omega)
  rw [List.map_cons, show rl (adx adr (σ.1 + 1) q) (vr (σ.1 + 1)) = .ref q from by show Value.ref _ = _; rw [adx_eq], List.map_congr_left (fun v hv => rl_adx ((tc hst).2 v hv))] at k
  exact k
theorem gw_newq (C : Hr p R s m args c D cA cc own nL A n0 lim) {n : Int} {i : Nat} (hd : decode cc pc = .ok (.anewarray i, 3)) (hw : Cond.classLink own i RX7 ∈ gtbl) (hk : fK (σ.1 + 1) = (3, n.toNat)) (h0 : 0 ≤ n) (h1 : n ≤ 10000) (hlim : σ.1 + 1 ≤ lim) (h : GW p l e R s m args below meth c D cA nL A n0 adr0 lim Qm (pc + 3) L (vr (σ.1 + 1) :: r) (σ.1 + 1, zrZ σ.2.1 (σ.1 + 1), zrR σ.2.2 (σ.1 + 1))) : GW p l e R s m args below meth c D cA nL A n0 adr0 lim Qm pc L (vi n :: r) σ := by
  intro adr H locs ls cells slots hwf hst hlo hl hP hD hS hn0 hlm hadr hce hsl
  obtain ⟨hx, hb, hml, hown, hts, hK, hN, hA, hlc, hls⟩ := C
  have hsm := SL_mono hlim
  have hss : SL (σ.1 + 1) = SL σ.1 + szo (σ.1 + 1) := rfl
  have hz : szo (σ.1 + 1) = n.toNat := by unfold szo; rw [hk]; rfl
  have hk2 : (fK (σ.1 + 1)).2 = n.toNat := by rw [hk]
  have hn : okI n := ⟨by omega, by omega⟩
  refine va_newq (C := RX7) (N' := n.toNat) hx hb hown (hts _ hw) hN.2 hK hP hD hS hA (by show ¬ _ < Int32.ofInt 0; rw [i32_lt hn ok_0]; omega) (nclamp hn) (by omega) (by omega) (by omega) hd (fun q cB H1 hK1 hP1 hD1 hS1 => ?_)
  have hcc : cB = cA 3 := by
    obtain ⟨_, _, _, _, _, e1⟩ := (hK1.2 4 _ rfl).2
    obtain ⟨_, _, _, _, _, e2⟩ := (hK.2 3 _ rfl).2
    exact Option.some.inj (e1.symm.trans e2)
  subst hcc
  have hc := wld_new (cA := cA) (adr := adr) (q := q) hwf
  rw [show celF cA adr (fun _ => 0) (fun _ => 0) (σ.1 + 1) = .inl (cA 3, n.toNat, .inr (.inr (.inr (.inr (fun _ => none))))) from by unfold celF; rw [hk]; rfl] at hc
  rw [← hc] at hP1 hD1
  rw [← hz]
  have k := h (adx adr (σ.1 + 1) q) H1 locs ls (cells + 1) (slots + szo (σ.1 + 1)) (wf_new hwf) (ct (show σ.1 + 1 ≤ σ.1 + 1 from Nat.le_refl _) (fun v hv => okV_mono (Nat.le_succ _) ((tc hst).2 v hv))) (fun v hv => okV_mono (Nat.le_succ _) (hlo v hv)) (by rw [List.map_congr_left (fun v hv => by rw [rl_adx (hlo v hv)])]; exact hl) hP1 hD1 hS1 (by omega) hlim (fun o ho => by rw [adx_ne (by omega)]; exact hadr o ho) (by show cells + 1 + n0 = σ.1 + 1; omega) (by show slots + szo (σ.1 + 1) + SL n0 = SL σ.1 + szo (σ.1 + 1); omega)
  rw [List.map_cons, show rl (adx adr (σ.1 + 1) q) (vr (σ.1 + 1)) = .ref q from by show Value.ref _ = _; rw [adx_eq], List.map_congr_left (fun v hv => rl_adx ((tc hst).2 v hv))] at k
  exact k
theorem dflt_fv {ci : Nat} (hc : ci < 12) (adr : Nat → Nat) : ∀ j, j < fN ci → defaultValue (fY ci j) = vp_V ((List.range (fN ci)).map (fv adr (fun _ => 0) (fun _ => 0) ci)) j := by
  intro j hj
  unfold vp_V
  rw [List.getD_eq_getElem?_getD, List.getElem?_map, List.getElem?_range hj, Option.map_some, Option.getD_some]
  cases hr : fkR ci j with
  | true =>
    unfold fv rf
    rw [hr]
    rcases fY_r ci j hr with ⟨C, h⟩ | ⟨t, h⟩ <;> rw [h] <;> rfl
  | false =>
    rw [fv_i hr]
    cases hb : fkB ci j with
    | true => rw [fY_z ci j hb]; rfl
    | false => rw [fY_i ci hc j hj hr hb]; rfl
theorem gw_new (C : Hr p R s m args c D cA cc own nL A n0 lim) {ci i : Nat} (hd : decode cc pc = .ok (.new i, 3)) (hp : ci < 12 ∧ Cond.classLink own i (fR ci) ∈ gtbl ∧ Cond.instantiable (fR ci) (fN ci) ∈ gtbl ∧ Cond.initialized (fR ci) ∈ gtbl) (hk : (fK (σ.1 + 1)).1 = 10 + ci) (hlim : σ.1 + 1 ≤ lim) (h : GW p l e R s m args below meth c D cA nL A n0 adr0 lim Qm (pc + 3) L (vr (σ.1 + 1) :: r) (σ.1 + 1, zrZ σ.2.1 (σ.1 + 1), zrR σ.2.2 (σ.1 + 1))) : GW p l e R s m args below meth c D cA nL A n0 adr0 lim Qm pc L (r) σ := by
  intro adr H locs ls cells slots hwf hst hlo hl hP hD hS hn0 hlm hadr hce hsl
  obtain ⟨hx, hb, hml, hown, hts, hK, hN, hA, hlc, hls⟩ := C
  have hsm := SL_mono hlim
  have hss : SL (σ.1 + 1) = SL σ.1 + szo (σ.1 + 1) := rfl
  have hz : szo (σ.1 + 1) = fN ci := by unfold szo; rw [hk, show Nat.ble 10 (10 + ci) = true from Nat.ble_eq_true_of_le (by omega), show 10 + ci - 10 = ci by omega]; rfl
  refine va_new (ci := ci) (C := fR ci) (T := fT ci) (N := fN ci) (fs := (List.range (fN ci)).map (fv adr (fun _ => 0) (fun _ => 0) ci)) hx hb hts (gt_ws ci hp.1) (fY ci) (fY_ok ci hp.1) hown (hts _ hp.2.1) (hts _ hp.2.2.1) (hts _ hp.2.2.2) hK hP hD hS hA (cl_at ci hp.1) (dflt_fv hp.1 adr) (by omega) (by omega) hd (fun q H1 hP1 hD1 hS1 => ?_)
  have hc := wld_new (cA := cA) (adr := adr) (q := q) hwf
  rw [show celF cA adr (fun _ => 0) (fun _ => 0) (σ.1 + 1) = .inr (ci, (List.range (fN ci)).map (fv adr (fun _ => 0) (fun _ => 0) ci)) from cel_o (σ := (0, fun _ _ => 0, fun _ _ => 0)) hk] at hc
  rw [← hc] at hP1 hD1
  rw [← hz]
  have k := h (adx adr (σ.1 + 1) q) H1 locs ls (cells + 1) (slots + szo (σ.1 + 1)) (wf_new hwf) (ct (show σ.1 + 1 ≤ σ.1 + 1 from Nat.le_refl _) (fun v hv => okV_mono (Nat.le_succ _) (hst v hv))) (fun v hv => okV_mono (Nat.le_succ _) (hlo v hv)) (by rw [List.map_congr_left (fun v hv => by rw [rl_adx (hlo v hv)])]; exact hl) hP1 hD1 hS1 (by omega) hlim (fun o ho => by rw [adx_ne (by omega)]; exact hadr o ho) (by show cells + 1 + n0 = σ.1 + 1; omega) (by show slots + szo (σ.1 + 1) + SL n0 = SL σ.1 + szo (σ.1 + 1); omega)
  rw [List.map_cons, show rl (adx adr (σ.1 + 1) q) (vr (σ.1 + 1)) = .ref q from by show Value.ref _ = _; rw [adx_eq], List.map_congr_left (fun v hv => rl_adx (hst v hv))] at k
  exact k
theorem gw_objinit (C : Hr p R s m args c D cA cc own nL A n0 lim) {o i : Nat} (hd : decode cc pc = .ok (.invokespecial i, 3)) (hw : Cond.methodLink own i objectInit ∈ gtbl ∧ Cond.instanceMethod objectInit ∈ gtbl ∧ Cond.code objectInit ⟨#[0xb1]⟩ 1 none ∈ gtbl) (hR : 1 ≤ R.frames ∧ 20 ≤ R.locals) (hs : psum r ≤ 8) (h : GW p l e R s m args below meth c D cA nL A n0 adr0 lim Qm (pc + 3) L r σ) : GW p l e R s m args below meth c D cA nL A n0 adr0 lim Qm pc L (vr o :: r) σ := by
  intro adr H locs ls cells slots hwf hst hlo hl hP hD hS hn0 hlm hadr hce hsl
  obtain ⟨hx, hb, hml, hown, hts, hK, hN, hA, hlc, hls⟩ := C
  refine W.objInit hx hb hown (hts _ hw.1) (hts _ hw.2.1) (hts _ hw.2.2) rfl (by rw [hml]; exact hl.1) rfl hd hR.1 ?_ (W.eq (g2 := F0 m (pc + 3) ls (r.map (rl adr))) rfl (h adr H locs ls cells slots hwf ((tc hst).2) hlo hl hP hD hS hn0 hlm hadr hce hsl))
  have k := lv_room (m := m) (pc := pc) (ls := ls) (rest := (r.map (rl adr))) (st := r.map (rl adr)) (by rw [psum_eq]; exact hs)
  rw [psum_eq] at k ⊢
  have k2 := hR.2
  simp only [JFrame.monitorRoom] at k ⊢
  omega
end HEAP
