/-! ===== words of the table, picked together ===== -/
def pick : List Cond → List Nat → List Cond
  | _, [] => []
  | l, g :: gs => match l.drop g with
    | [] => []
    | c :: t => c :: pick t gs
theorem pick_mem : ∀ (gs : List Nat) (l : List Cond) (w : Cond), w ∈ pick l gs → w ∈ l
  | [], l, w, h => by cases h
  | g :: gs, l, w, h => by
    have h' : w ∈ (match l.drop g with
      | [] => []
      | c :: t => c :: pick t gs) := h
    cases hd : l.drop g with
    | nil =>
      rw [hd] at h'
      cases h'
    | cons c t =>
      rw [hd] at h'
      have hs : ∀ x, x ∈ c :: t → x ∈ l := fun x hx => List.mem_of_mem_drop (i := g) (by rw [hd]; exact hx)
      rcases List.mem_cons.mp h' with e | e
      · exact hs w (by rw [e]; exact List.mem_cons_self)
      · exact hs w (List.mem_cons_of_mem _ (pick_mem gs t w e))
def conjG : List Cond → Prop
  | [] => True
  | w :: t => w ∈ gtbl ∧ conjG t
theorem conj_all : ∀ ws : List Cond, (∀ w ∈ ws, w ∈ gtbl) → conjG ws
  | [], _ => trivial
  | w :: t, h => ⟨h w List.mem_cons_self, conj_all t (fun x hx => h x (List.mem_cons_of_mem _ hx))⟩
theorem conj_of (gs : List Nat) {ws : List Cond} (h : pick lw_tbl gs = ws) (g : ws.all goodWord = true) : conjG ws := conj_all ws (fun w hw => List.mem_filter.mpr ⟨pick_mem gs lw_tbl w (by rw [h]; exact hw), List.all_eq_true.mp g w hw⟩)
