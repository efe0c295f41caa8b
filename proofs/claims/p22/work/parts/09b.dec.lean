/-! ===== DECODING: the bytes of an instruction; a table walked along its bytes ===== -/
theorem bl_at {cc : ByteArray} {pc : Nat} {b : UInt8} {r : List UInt8} (h : cc.data.toList.drop pc = b :: r) : (∃ hl : pc < cc.size, (cc[pc]'hl) = b) ∧ cc.data.toList.drop (pc + 1) = r := by
  have hl : pc < cc.data.toList.length := by
    refine Nat.lt_of_not_le (fun hg => ?_)
    rw [List.drop_eq_nil_of_le hg] at h
    cases h
  have e : cc.data.toList.drop pc = cc.data.toList[pc] :: cc.data.toList.drop (pc + 1) := List.drop_eq_getElem_cons hl
  rw [e] at h
  exact ⟨⟨hl, (List.cons.inj h).1⟩, (List.cons.inj h).2⟩
theorem u1_at {cc : ByteArray} {pc : Nat} {b : UInt8} {r : List UInt8} (h : cc.data.toList.drop pc = b :: r) : (Reader.u1 : Decoder Nat) cc pc = .ok (b.toNat, pc + 1) := by
  obtain ⟨⟨hs, hb⟩, -⟩ := bl_at h
  have e : (Reader.u1 : Decoder Nat) cc pc = (if h : pc < cc.size then (do set (pc + 1); pure (cc[pc]'h).toNat : Decoder Nat) else throw (HasTruncated.truncated pc)) cc pc := rfl
  rw [e, dif_pos hs]
  show Except.ok ((cc[pc]'hs).toNat, pc + 1) = _
  rw [hb]
theorem rb {α β : Type} {m : Decoder α} {f : α → Decoder β} {c : ByteArray} {p q : Nat} {a : α} (h : m c p = .ok (a, q)) : (m >>= f) c p = f a c q := by
  show Except.bind (m c p) _ = _
  rw [h]
  rfl
theorem rm {α β : Type} {m : Decoder α} {f : α → β} {c : ByteArray} {p q : Nat} {a : α} (h : m c p = .ok (a, q)) : (f <$> m) c p = .ok (f a, q) := by
  show Except.bind (m c p) _ = _
  rw [h]
  rfl
theorem u2_of {c : ByteArray} {p q r a b : Nat} (h : (Reader.u1 : Decoder Nat) c p = .ok (a, q)) (g : (Reader.u1 : Decoder Nat) c q = .ok (b, r)) : (Reader.u2 : Decoder Nat) c p = .ok (a * 256 + b, r) := (rb h).trans ((rb g).trans rfl)
theorem dec_i {cc : ByteArray} {pc n : Nat} {i : Instr} (h : Decoder.instr pc cc pc = .ok (i, pc + n)) : decode cc pc = .ok (i, n) := by
  show Except.bind (Decoder.instr pc cc pc) _ = _
  rw [h]
  show Except.ok (i, pc + n - pc) = _
  rw [Nat.add_sub_cancel_left]
def o1 (op : Nat) (bs : List UInt8) : Bool := match bs with
  | b :: _ => Nat.beq b.toNat op
  | _ => false
def o2 (op : Nat) (k : Nat → Bool) (bs : List UInt8) : Bool := match bs with
  | b :: c :: _ => Nat.beq b.toNat op && k c.toNat
  | _ => false
def o3 (op : Nat) (k : Nat → Nat → Bool) (bs : List UInt8) : Bool := match bs with
  | b :: c :: d :: _ => Nat.beq b.toNat op && k c.toNat d.toNat
  | _ => false
theorem l1 {cc : ByteArray} {pc op : Nat} {i : Instr} (h : o1 op (cc.data.toList.drop pc) = true) (hk : ∀ (p q : Nat) (c : ByteArray), (Reader.u1 : Decoder Nat) c p = .ok (op, q) → Decoder.instr p c p = .ok (i, q)) : decode cc pc = .ok (i, 1) := by
  cases hb : cc.data.toList.drop pc with
  | nil => rw [hb] at h; exact absurd (show false = true from h) Bool.false_ne_true
  | cons b r =>
    rw [hb] at h
    have e := Nat.eq_of_beq_eq_true (show Nat.beq b.toNat op = true from h)
    have u := u1_at hb
    rw [e] at u
    exact dec_i (hk pc (pc + 1) cc u)
theorem l2 {cc : ByteArray} {pc op : Nat} {k : Nat → Bool} {i : Instr} (h : o2 op k (cc.data.toList.drop pc) = true) (hk : ∀ (p q r v : Nat) (c : ByteArray), k v = true → (Reader.u1 : Decoder Nat) c p = .ok (op, q) → (Reader.u1 : Decoder Nat) c q = .ok (v, r) → Decoder.instr p c p = .ok (i, r)) : decode cc pc = .ok (i, 2) := by
  rcases hb : cc.data.toList.drop pc with _ | ⟨b, _ | ⟨b2, r⟩⟩
  · rw [hb] at h; exact absurd (show false = true from h) Bool.false_ne_true
  · rw [hb] at h; exact absurd (show false = true from h) Bool.false_ne_true
  · rw [hb] at h
    have h' : (Nat.beq b.toNat op && k b2.toNat) = true := h
    rw [Bool.and_eq_true] at h'
    have e := Nat.eq_of_beq_eq_true h'.1
    have u := u1_at hb
    rw [e] at u
    exact dec_i (hk pc (pc + 1) (pc + 1 + 1) b2.toNat cc h'.2 u (u1_at (bl_at hb).2))
theorem l3 {cc : ByteArray} {pc op : Nat} {k : Nat → Nat → Bool} {i : Instr} (h : o3 op k (cc.data.toList.drop pc) = true) (hk : ∀ (p q r s v w : Nat) (c : ByteArray), k v w = true → (Reader.u1 : Decoder Nat) c p = .ok (op, q) → (Reader.u1 : Decoder Nat) c q = .ok (v, r) → (Reader.u1 : Decoder Nat) c r = .ok (w, s) → Decoder.instr p c p = .ok (i, s)) : decode cc pc = .ok (i, 3) := by
  rcases hb : cc.data.toList.drop pc with _ | ⟨b, _ | ⟨b2, _ | ⟨b3, r⟩⟩⟩
  · rw [hb] at h; exact absurd (show false = true from h) Bool.false_ne_true
  · rw [hb] at h; exact absurd (show false = true from h) Bool.false_ne_true
  · rw [hb] at h; exact absurd (show false = true from h) Bool.false_ne_true
  · rw [hb] at h
    have h' : (Nat.beq b.toNat op && k b2.toNat b3.toNat) = true := h
    rw [Bool.and_eq_true] at h'
    have e := Nat.eq_of_beq_eq_true h'.1
    have u := u1_at hb
    have t1 := (bl_at hb).2
    rw [e] at u
    exact dec_i (hk pc (pc + 1) (pc + 1 + 1) (pc + 1 + 1 + 1) b2.toNat b3.toNat cc h'.2 u (u1_at t1) (u1_at (bl_at t1).2))
theorem fin4 {P : Fin 4 → Prop} (h0 : P 0) (h1 : P 1) (h2 : P 2) (h3 : P 3) : ∀ n, P n
  | ⟨0, _⟩ => h0
  | ⟨1, _⟩ => h1
  | ⟨2, _⟩ => h2
  | ⟨3, _⟩ => h3
theorem fin2 {P : Fin 2 → Prop} (h0 : P 0) (h1 : P 1) : ∀ n, P n
  | ⟨0, _⟩ => h0
  | ⟨1, _⟩ => h1
def cdN (c : Jvm.ClassFile.Cond) : Nat := match c with
  | .eq => 0
  | .ne => 1
  | .lt => 2
  | .ge => 3
  | .gt => 4
  | .le => 5
def atN (a : Jvm.ClassFile.ArrayType) : Nat := match a with
  | .boolean => 4
  | .char => 5
  | .float => 6
  | .double => 7
  | .byte => 8
  | .short => 9
  | .int => 10
  | .long => 11
/-- the bytes ahead are this instruction's -/
def pre (i : Instr) (bs : List UInt8) : Bool := match i with
  | .aaload => o1 50 bs
  | .aastore => o1 83 bs
  | .areturn => o1 176 bs
  | .arraylength => o1 190 bs
  | .baload => o1 51 bs
  | .bastore => o1 84 bs
  | .dup => o1 89 bs
  | .dup2 => o1 92 bs
  | .i2l => o1 133 bs
  | .iadd => o1 96 bs
  | .iaload => o1 46 bs
  | .iand => o1 126 bs
  | .iastore => o1 79 bs
  | .idiv => o1 108 bs
  | .imul => o1 104 bs
  | .ineg => o1 116 bs
  | .ior => o1 128 bs
  | .irem => o1 112 bs
  | .ireturn => o1 172 bs
  | .ishl => o1 120 bs
  | .ishr => o1 122 bs
  | .isub => o1 100 bs
  | .iushr => o1 124 bs
  | .ixor => o1 130 bs
  | .l2i => o1 136 bs
  | .ladd => o1 97 bs
  | .laload => o1 47 bs
  | .land => o1 127 bs
  | .lastore => o1 80 bs
  | .lcmp => o1 148 bs
  | .ldiv => o1 109 bs
  | .lmul => o1 105 bs
  | .lneg => o1 117 bs
  | .lor => o1 129 bs
  | .lreturn => o1 173 bs
  | .lshl => o1 121 bs
  | .lshr => o1 123 bs
  | .lsub => o1 101 bs
  | .lushr => o1 125 bs
  | .lxor => o1 131 bs
  | .pop => o1 87 bs
  | .pop2 => o1 88 bs
  | .return_ => o1 177 bs
  | .iload_n n => o1 (26 + n.val) bs
  | .lload_n n => o1 (30 + n.val) bs
  | .aload_n n => o1 (42 + n.val) bs
  | .istore_n n => o1 (59 + n.val) bs
  | .lstore_n n => o1 (63 + n.val) bs
  | .astore_n n => o1 (75 + n.val) bs
  | .lconst n => o1 (9 + n.val) bs
  | .iconst n => decide (-1 ≤ n ∧ n ≤ 5) && o1 (n + 3).toNat bs
  | .ldc n => o2 18 (fun v => Nat.beq v n) bs
  | .iload n => o2 21 (fun v => Nat.beq v n) bs
  | .lload n => o2 22 (fun v => Nat.beq v n) bs
  | .aload n => o2 25 (fun v => Nat.beq v n) bs
  | .istore n => o2 54 (fun v => Nat.beq v n) bs
  | .lstore n => o2 55 (fun v => Nat.beq v n) bs
  | .astore n => o2 58 (fun v => Nat.beq v n) bs
  | .ldc_w n => o3 19 (fun v w => Nat.beq (v * 256 + w) n) bs
  | .ldc2_w n => o3 20 (fun v w => Nat.beq (v * 256 + w) n) bs
  | .getfield n => o3 180 (fun v w => Nat.beq (v * 256 + w) n) bs
  | .putfield n => o3 181 (fun v w => Nat.beq (v * 256 + w) n) bs
  | .invokevirtual n => o3 182 (fun v w => Nat.beq (v * 256 + w) n) bs
  | .invokespecial n => o3 183 (fun v w => Nat.beq (v * 256 + w) n) bs
  | .invokestatic n => o3 184 (fun v w => Nat.beq (v * 256 + w) n) bs
  | .new n => o3 187 (fun v w => Nat.beq (v * 256 + w) n) bs
  | .anewarray n => o3 189 (fun v w => Nat.beq (v * 256 + w) n) bs
  | .bipush n => o2 16 (fun v => decide (Reader.signed 8 v = n)) bs
  | .sipush n => o3 17 (fun v w => decide (Reader.signed 16 (v * 256 + w) = n)) bs
  | .goto n => o3 167 (fun v w => decide (Reader.signed 16 (v * 256 + w) = n)) bs
  | .ifCond c n => o3 (153 + cdN c) (fun v w => decide (Reader.signed 16 (v * 256 + w) = n)) bs
  | .if_icmp c n => o3 (159 + cdN c) (fun v w => decide (Reader.signed 16 (v * 256 + w) = n)) bs
  | .iinc j n => o3 132 (fun v w => Nat.beq v j && decide (Reader.signed 8 w = n)) bs
  | .newarray a => o2 188 (fun v => Nat.beq v (atN a)) bs
  | _ => false
set_option maxRecDepth 100000 in
theorem pk_aaload {cc : ByteArray} {pc : Nat}  (h : pre (.aaload) (cc.data.toList.drop pc) = true) : decode cc pc = .ok (.aaload, ilen (.aaload)) := by
  exact l1 (op := 50) (i := .aaload) h (fun p q c u => by unfold Decoder.instr; exact (rb u).trans rfl)
set_option maxRecDepth 100000 in
theorem pk_aastore {cc : ByteArray} {pc : Nat}  (h : pre (.aastore) (cc.data.toList.drop pc) = true) : decode cc pc = .ok (.aastore, ilen (.aastore)) := by
  exact l1 (op := 83) (i := .aastore) h (fun p q c u => by unfold Decoder.instr; exact (rb u).trans rfl)
set_option maxRecDepth 100000 in
theorem pk_areturn {cc : ByteArray} {pc : Nat}  (h : pre (.areturn) (cc.data.toList.drop pc) = true) : decode cc pc = .ok (.areturn, ilen (.areturn)) := by
  exact l1 (op := 176) (i := .areturn) h (fun p q c u => by unfold Decoder.instr; exact (rb u).trans rfl)
set_option maxRecDepth 100000 in
theorem pk_arraylength {cc : ByteArray} {pc : Nat}  (h : pre (.arraylength) (cc.data.toList.drop pc) = true) : decode cc pc = .ok (.arraylength, ilen (.arraylength)) := by
  exact l1 (op := 190) (i := .arraylength) h (fun p q c u => by unfold Decoder.instr; exact (rb u).trans rfl)
set_option maxRecDepth 100000 in
theorem pk_baload {cc : ByteArray} {pc : Nat}  (h : pre (.baload) (cc.data.toList.drop pc) = true) : decode cc pc = .ok (.baload, ilen (.baload)) := by
  exact l1 (op := 51) (i := .baload) h (fun p q c u => by unfold Decoder.instr; exact (rb u).trans rfl)
set_option maxRecDepth 100000 in
theorem pk_bastore {cc : ByteArray} {pc : Nat}  (h : pre (.bastore) (cc.data.toList.drop pc) = true) : decode cc pc = .ok (.bastore, ilen (.bastore)) := by
  exact l1 (op := 84) (i := .bastore) h (fun p q c u => by unfold Decoder.instr; exact (rb u).trans rfl)
set_option maxRecDepth 100000 in
theorem pk_dup {cc : ByteArray} {pc : Nat}  (h : pre (.dup) (cc.data.toList.drop pc) = true) : decode cc pc = .ok (.dup, ilen (.dup)) := by
  exact l1 (op := 89) (i := .dup) h (fun p q c u => by unfold Decoder.instr; exact (rb u).trans rfl)
set_option maxRecDepth 100000 in
theorem pk_dup2 {cc : ByteArray} {pc : Nat}  (h : pre (.dup2) (cc.data.toList.drop pc) = true) : decode cc pc = .ok (.dup2, ilen (.dup2)) := by
  exact l1 (op := 92) (i := .dup2) h (fun p q c u => by unfold Decoder.instr; exact (rb u).trans rfl)
set_option maxRecDepth 100000 in
theorem pk_i2l {cc : ByteArray} {pc : Nat}  (h : pre (.i2l) (cc.data.toList.drop pc) = true) : decode cc pc = .ok (.i2l, ilen (.i2l)) := by
  exact l1 (op := 133) (i := .i2l) h (fun p q c u => by unfold Decoder.instr; exact (rb u).trans rfl)
set_option maxRecDepth 100000 in
theorem pk_iadd {cc : ByteArray} {pc : Nat}  (h : pre (.iadd) (cc.data.toList.drop pc) = true) : decode cc pc = .ok (.iadd, ilen (.iadd)) := by
  exact l1 (op := 96) (i := .iadd) h (fun p q c u => by unfold Decoder.instr; exact (rb u).trans rfl)
set_option maxRecDepth 100000 in
theorem pk_iaload {cc : ByteArray} {pc : Nat}  (h : pre (.iaload) (cc.data.toList.drop pc) = true) : decode cc pc = .ok (.iaload, ilen (.iaload)) := by
  exact l1 (op := 46) (i := .iaload) h (fun p q c u => by unfold Decoder.instr; exact (rb u).trans rfl)
set_option maxRecDepth 100000 in
theorem pk_iand {cc : ByteArray} {pc : Nat}  (h : pre (.iand) (cc.data.toList.drop pc) = true) : decode cc pc = .ok (.iand, ilen (.iand)) := by
  exact l1 (op := 126) (i := .iand) h (fun p q c u => by unfold Decoder.instr; exact (rb u).trans rfl)
set_option maxRecDepth 100000 in
theorem pk_iastore {cc : ByteArray} {pc : Nat}  (h : pre (.iastore) (cc.data.toList.drop pc) = true) : decode cc pc = .ok (.iastore, ilen (.iastore)) := by
  exact l1 (op := 79) (i := .iastore) h (fun p q c u => by unfold Decoder.instr; exact (rb u).trans rfl)
set_option maxRecDepth 100000 in
theorem pk_idiv {cc : ByteArray} {pc : Nat}  (h : pre (.idiv) (cc.data.toList.drop pc) = true) : decode cc pc = .ok (.idiv, ilen (.idiv)) := by
  exact l1 (op := 108) (i := .idiv) h (fun p q c u => by unfold Decoder.instr; exact (rb u).trans rfl)
set_option maxRecDepth 100000 in
theorem pk_imul {cc : ByteArray} {pc : Nat}  (h : pre (.imul) (cc.data.toList.drop pc) = true) : decode cc pc = .ok (.imul, ilen (.imul)) := by
  exact l1 (op := 104) (i := .imul) h (fun p q c u => by unfold Decoder.instr; exact (rb u).trans rfl)
set_option maxRecDepth 100000 in
theorem pk_ineg {cc : ByteArray} {pc : Nat}  (h : pre (.ineg) (cc.data.toList.drop pc) = true) : decode cc pc = .ok (.ineg, ilen (.ineg)) := by
  exact l1 (op := 116) (i := .ineg) h (fun p q c u => by unfold Decoder.instr; exact (rb u).trans rfl)
set_option maxRecDepth 100000 in
theorem pk_ior {cc : ByteArray} {pc : Nat}  (h : pre (.ior) (cc.data.toList.drop pc) = true) : decode cc pc = .ok (.ior, ilen (.ior)) := by
  exact l1 (op := 128) (i := .ior) h (fun p q c u => by unfold Decoder.instr; exact (rb u).trans rfl)
set_option maxRecDepth 100000 in
theorem pk_irem {cc : ByteArray} {pc : Nat}  (h : pre (.irem) (cc.data.toList.drop pc) = true) : decode cc pc = .ok (.irem, ilen (.irem)) := by
  exact l1 (op := 112) (i := .irem) h (fun p q c u => by unfold Decoder.instr; exact (rb u).trans rfl)
set_option maxRecDepth 100000 in
theorem pk_ireturn {cc : ByteArray} {pc : Nat}  (h : pre (.ireturn) (cc.data.toList.drop pc) = true) : decode cc pc = .ok (.ireturn, ilen (.ireturn)) := by
  exact l1 (op := 172) (i := .ireturn) h (fun p q c u => by unfold Decoder.instr; exact (rb u).trans rfl)
set_option maxRecDepth 100000 in
theorem pk_ishl {cc : ByteArray} {pc : Nat}  (h : pre (.ishl) (cc.data.toList.drop pc) = true) : decode cc pc = .ok (.ishl, ilen (.ishl)) := by
  exact l1 (op := 120) (i := .ishl) h (fun p q c u => by unfold Decoder.instr; exact (rb u).trans rfl)
set_option maxRecDepth 100000 in
theorem pk_ishr {cc : ByteArray} {pc : Nat}  (h : pre (.ishr) (cc.data.toList.drop pc) = true) : decode cc pc = .ok (.ishr, ilen (.ishr)) := by
  exact l1 (op := 122) (i := .ishr) h (fun p q c u => by unfold Decoder.instr; exact (rb u).trans rfl)
set_option maxRecDepth 100000 in
theorem pk_isub {cc : ByteArray} {pc : Nat}  (h : pre (.isub) (cc.data.toList.drop pc) = true) : decode cc pc = .ok (.isub, ilen (.isub)) := by
  exact l1 (op := 100) (i := .isub) h (fun p q c u => by unfold Decoder.instr; exact (rb u).trans rfl)
set_option maxRecDepth 100000 in
theorem pk_iushr {cc : ByteArray} {pc : Nat}  (h : pre (.iushr) (cc.data.toList.drop pc) = true) : decode cc pc = .ok (.iushr, ilen (.iushr)) := by
  exact l1 (op := 124) (i := .iushr) h (fun p q c u => by unfold Decoder.instr; exact (rb u).trans rfl)
set_option maxRecDepth 100000 in
theorem pk_ixor {cc : ByteArray} {pc : Nat}  (h : pre (.ixor) (cc.data.toList.drop pc) = true) : decode cc pc = .ok (.ixor, ilen (.ixor)) := by
  exact l1 (op := 130) (i := .ixor) h (fun p q c u => by unfold Decoder.instr; exact (rb u).trans rfl)
set_option maxRecDepth 100000 in
theorem pk_l2i {cc : ByteArray} {pc : Nat}  (h : pre (.l2i) (cc.data.toList.drop pc) = true) : decode cc pc = .ok (.l2i, ilen (.l2i)) := by
  exact l1 (op := 136) (i := .l2i) h (fun p q c u => by unfold Decoder.instr; exact (rb u).trans rfl)
set_option maxRecDepth 100000 in
theorem pk_ladd {cc : ByteArray} {pc : Nat}  (h : pre (.ladd) (cc.data.toList.drop pc) = true) : decode cc pc = .ok (.ladd, ilen (.ladd)) := by
  exact l1 (op := 97) (i := .ladd) h (fun p q c u => by unfold Decoder.instr; exact (rb u).trans rfl)
set_option maxRecDepth 100000 in
theorem pk_laload {cc : ByteArray} {pc : Nat}  (h : pre (.laload) (cc.data.toList.drop pc) = true) : decode cc pc = .ok (.laload, ilen (.laload)) := by
  exact l1 (op := 47) (i := .laload) h (fun p q c u => by unfold Decoder.instr; exact (rb u).trans rfl)
set_option maxRecDepth 100000 in
theorem pk_land {cc : ByteArray} {pc : Nat}  (h : pre (.land) (cc.data.toList.drop pc) = true) : decode cc pc = .ok (.land, ilen (.land)) := by
  exact l1 (op := 127) (i := .land) h (fun p q c u => by unfold Decoder.instr; exact (rb u).trans rfl)
set_option maxRecDepth 100000 in
theorem pk_lastore {cc : ByteArray} {pc : Nat}  (h : pre (.lastore) (cc.data.toList.drop pc) = true) : decode cc pc = .ok (.lastore, ilen (.lastore)) := by
  exact l1 (op := 80) (i := .lastore) h (fun p q c u => by unfold Decoder.instr; exact (rb u).trans rfl)
set_option maxRecDepth 100000 in
theorem pk_lcmp {cc : ByteArray} {pc : Nat}  (h : pre (.lcmp) (cc.data.toList.drop pc) = true) : decode cc pc = .ok (.lcmp, ilen (.lcmp)) := by
  exact l1 (op := 148) (i := .lcmp) h (fun p q c u => by unfold Decoder.instr; exact (rb u).trans rfl)
set_option maxRecDepth 100000 in
theorem pk_ldiv {cc : ByteArray} {pc : Nat}  (h : pre (.ldiv) (cc.data.toList.drop pc) = true) : decode cc pc = .ok (.ldiv, ilen (.ldiv)) := by
  exact l1 (op := 109) (i := .ldiv) h (fun p q c u => by unfold Decoder.instr; exact (rb u).trans rfl)
set_option maxRecDepth 100000 in
theorem pk_lmul {cc : ByteArray} {pc : Nat}  (h : pre (.lmul) (cc.data.toList.drop pc) = true) : decode cc pc = .ok (.lmul, ilen (.lmul)) := by
  exact l1 (op := 105) (i := .lmul) h (fun p q c u => by unfold Decoder.instr; exact (rb u).trans rfl)
set_option maxRecDepth 100000 in
theorem pk_lneg {cc : ByteArray} {pc : Nat}  (h : pre (.lneg) (cc.data.toList.drop pc) = true) : decode cc pc = .ok (.lneg, ilen (.lneg)) := by
  exact l1 (op := 117) (i := .lneg) h (fun p q c u => by unfold Decoder.instr; exact (rb u).trans rfl)
set_option maxRecDepth 100000 in
theorem pk_lor {cc : ByteArray} {pc : Nat}  (h : pre (.lor) (cc.data.toList.drop pc) = true) : decode cc pc = .ok (.lor, ilen (.lor)) := by
  exact l1 (op := 129) (i := .lor) h (fun p q c u => by unfold Decoder.instr; exact (rb u).trans rfl)
set_option maxRecDepth 100000 in
theorem pk_lreturn {cc : ByteArray} {pc : Nat}  (h : pre (.lreturn) (cc.data.toList.drop pc) = true) : decode cc pc = .ok (.lreturn, ilen (.lreturn)) := by
  exact l1 (op := 173) (i := .lreturn) h (fun p q c u => by unfold Decoder.instr; exact (rb u).trans rfl)
set_option maxRecDepth 100000 in
theorem pk_lshl {cc : ByteArray} {pc : Nat}  (h : pre (.lshl) (cc.data.toList.drop pc) = true) : decode cc pc = .ok (.lshl, ilen (.lshl)) := by
  exact l1 (op := 121) (i := .lshl) h (fun p q c u => by unfold Decoder.instr; exact (rb u).trans rfl)
set_option maxRecDepth 100000 in
theorem pk_lshr {cc : ByteArray} {pc : Nat}  (h : pre (.lshr) (cc.data.toList.drop pc) = true) : decode cc pc = .ok (.lshr, ilen (.lshr)) := by
  exact l1 (op := 123) (i := .lshr) h (fun p q c u => by unfold Decoder.instr; exact (rb u).trans rfl)
set_option maxRecDepth 100000 in
theorem pk_lsub {cc : ByteArray} {pc : Nat}  (h : pre (.lsub) (cc.data.toList.drop pc) = true) : decode cc pc = .ok (.lsub, ilen (.lsub)) := by
  exact l1 (op := 101) (i := .lsub) h (fun p q c u => by unfold Decoder.instr; exact (rb u).trans rfl)
set_option maxRecDepth 100000 in
theorem pk_lushr {cc : ByteArray} {pc : Nat}  (h : pre (.lushr) (cc.data.toList.drop pc) = true) : decode cc pc = .ok (.lushr, ilen (.lushr)) := by
  exact l1 (op := 125) (i := .lushr) h (fun p q c u => by unfold Decoder.instr; exact (rb u).trans rfl)
set_option maxRecDepth 100000 in
theorem pk_lxor {cc : ByteArray} {pc : Nat}  (h : pre (.lxor) (cc.data.toList.drop pc) = true) : decode cc pc = .ok (.lxor, ilen (.lxor)) := by
  exact l1 (op := 131) (i := .lxor) h (fun p q c u => by unfold Decoder.instr; exact (rb u).trans rfl)
set_option maxRecDepth 100000 in
theorem pk_pop {cc : ByteArray} {pc : Nat}  (h : pre (.pop) (cc.data.toList.drop pc) = true) : decode cc pc = .ok (.pop, ilen (.pop)) := by
  exact l1 (op := 87) (i := .pop) h (fun p q c u => by unfold Decoder.instr; exact (rb u).trans rfl)
set_option maxRecDepth 100000 in
theorem pk_pop2 {cc : ByteArray} {pc : Nat}  (h : pre (.pop2) (cc.data.toList.drop pc) = true) : decode cc pc = .ok (.pop2, ilen (.pop2)) := by
  exact l1 (op := 88) (i := .pop2) h (fun p q c u => by unfold Decoder.instr; exact (rb u).trans rfl)
set_option maxRecDepth 100000 in
theorem pk_return_ {cc : ByteArray} {pc : Nat}  (h : pre (.return_) (cc.data.toList.drop pc) = true) : decode cc pc = .ok (.return_, ilen (.return_)) := by
  exact l1 (op := 177) (i := .return_) h (fun p q c u => by unfold Decoder.instr; exact (rb u).trans rfl)
set_option maxRecDepth 100000 in
theorem pk_iload_n {cc : ByteArray} {pc : Nat} (n : Fin 4) (h : pre (.iload_n n) (cc.data.toList.drop pc) = true) : decode cc pc = .ok (.iload_n n, ilen (.iload_n n)) := by
  exact fin4 (P := fun n => o1 (26 + n.val) (cc.data.toList.drop pc) = true → decode cc pc = .ok (.iload_n n, 1)) (fun h => l1 (op := 26) (i := .iload_n 0) h (fun p q c u => by unfold Decoder.instr; exact (rb u).trans rfl)) (fun h => l1 (op := 27) (i := .iload_n 1) h (fun p q c u => by unfold Decoder.instr; exact (rb u).trans rfl)) (fun h => l1 (op := 28) (i := .iload_n 2) h (fun p q c u => by unfold Decoder.instr; exact (rb u).trans rfl)) (fun h => l1 (op := 29) (i := .iload_n 3) h (fun p q c u => by unfold Decoder.instr; exact (rb u).trans rfl)) n h
set_option maxRecDepth 100000 in
theorem pk_lload_n {cc : ByteArray} {pc : Nat} (n : Fin 4) (h : pre (.lload_n n) (cc.data.toList.drop pc) = true) : decode cc pc = .ok (.lload_n n, ilen (.lload_n n)) := by
  exact fin4 (P := fun n => o1 (30 + n.val) (cc.data.toList.drop pc) = true → decode cc pc = .ok (.lload_n n, 1)) (fun h => l1 (op := 30) (i := .lload_n 0) h (fun p q c u => by unfold Decoder.instr; exact (rb u).trans rfl)) (fun h => l1 (op := 31) (i := .lload_n 1) h (fun p q c u => by unfold Decoder.instr; exact (rb u).trans rfl)) (fun h => l1 (op := 32) (i := .lload_n 2) h (fun p q c u => by unfold Decoder.instr; exact (rb u).trans rfl)) (fun h => l1 (op := 33) (i := .lload_n 3) h (fun p q c u => by unfold Decoder.instr; exact (rb u).trans rfl)) n h
set_option maxRecDepth 100000 in
theorem pk_aload_n {cc : ByteArray} {pc : Nat} (n : Fin 4) (h : pre (.aload_n n) (cc.data.toList.drop pc) = true) : decode cc pc = .ok (.aload_n n, ilen (.aload_n n)) := by
  exact fin4 (P := fun n => o1 (42 + n.val) (cc.data.toList.drop pc) = true → decode cc pc = .ok (.aload_n n, 1)) (fun h => l1 (op := 42) (i := .aload_n 0) h (fun p q c u => by unfold Decoder.instr; exact (rb u).trans rfl)) (fun h => l1 (op := 43) (i := .aload_n 1) h (fun p q c u => by unfold Decoder.instr; exact (rb u).trans rfl)) (fun h => l1 (op := 44) (i := .aload_n 2) h (fun p q c u => by unfold Decoder.instr; exact (rb u).trans rfl)) (fun h => l1 (op := 45) (i := .aload_n 3) h (fun p q c u => by unfold Decoder.instr; exact (rb u).trans rfl)) n h
set_option maxRecDepth 100000 in
theorem pk_istore_n {cc : ByteArray} {pc : Nat} (n : Fin 4) (h : pre (.istore_n n) (cc.data.toList.drop pc) = true) : decode cc pc = .ok (.istore_n n, ilen (.istore_n n)) := by
  exact fin4 (P := fun n => o1 (59 + n.val) (cc.data.toList.drop pc) = true → decode cc pc = .ok (.istore_n n, 1)) (fun h => l1 (op := 59) (i := .istore_n 0) h (fun p q c u => by unfold Decoder.instr; exact (rb u).trans rfl)) (fun h => l1 (op := 60) (i := .istore_n 1) h (fun p q c u => by unfold Decoder.instr; exact (rb u).trans rfl)) (fun h => l1 (op := 61) (i := .istore_n 2) h (fun p q c u => by unfold Decoder.instr; exact (rb u).trans rfl)) (fun h => l1 (op := 62) (i := .istore_n 3) h (fun p q c u => by unfold Decoder.instr; exact (rb u).trans rfl)) n h
set_option maxRecDepth 100000 in
theorem pk_lstore_n {cc : ByteArray} {pc : Nat} (n : Fin 4) (h : pre (.lstore_n n) (cc.data.toList.drop pc) = true) : decode cc pc = .ok (.lstore_n n, ilen (.lstore_n n)) := by
  exact fin4 (P := fun n => o1 (63 + n.val) (cc.data.toList.drop pc) = true → decode cc pc = .ok (.lstore_n n, 1)) (fun h => l1 (op := 63) (i := .lstore_n 0) h (fun p q c u => by unfold Decoder.instr; exact (rb u).trans rfl)) (fun h => l1 (op := 64) (i := .lstore_n 1) h (fun p q c u => by unfold Decoder.instr; exact (rb u).trans rfl)) (fun h => l1 (op := 65) (i := .lstore_n 2) h (fun p q c u => by unfold Decoder.instr; exact (rb u).trans rfl)) (fun h => l1 (op := 66) (i := .lstore_n 3) h (fun p q c u => by unfold Decoder.instr; exact (rb u).trans rfl)) n h
set_option maxRecDepth 100000 in
theorem pk_astore_n {cc : ByteArray} {pc : Nat} (n : Fin 4) (h : pre (.astore_n n) (cc.data.toList.drop pc) = true) : decode cc pc = .ok (.astore_n n, ilen (.astore_n n)) := by
  exact fin4 (P := fun n => o1 (75 + n.val) (cc.data.toList.drop pc) = true → decode cc pc = .ok (.astore_n n, 1)) (fun h => l1 (op := 75) (i := .astore_n 0) h (fun p q c u => by unfold Decoder.instr; exact (rb u).trans rfl)) (fun h => l1 (op := 76) (i := .astore_n 1) h (fun p q c u => by unfold Decoder.instr; exact (rb u).trans rfl)) (fun h => l1 (op := 77) (i := .astore_n 2) h (fun p q c u => by unfold Decoder.instr; exact (rb u).trans rfl)) (fun h => l1 (op := 78) (i := .astore_n 3) h (fun p q c u => by unfold Decoder.instr; exact (rb u).trans rfl)) n h
set_option maxRecDepth 100000 in
theorem pk_lconst {cc : ByteArray} {pc : Nat} (n : Fin 2) (h : pre (.lconst n) (cc.data.toList.drop pc) = true) : decode cc pc = .ok (.lconst n, ilen (.lconst n)) := by
  exact fin2 (P := fun n => o1 (9 + n.val) (cc.data.toList.drop pc) = true → decode cc pc = .ok (.lconst n, 1)) (fun h => l1 (op := 9) (i := .lconst 0) h (fun p q c u => by unfold Decoder.instr; exact (rb u).trans rfl)) (fun h => l1 (op := 10) (i := .lconst 1) h (fun p q c u => by unfold Decoder.instr; exact (rb u).trans rfl)) n h
set_option maxRecDepth 100000 in
theorem pk_iconst {cc : ByteArray} {pc : Nat} (n : Int) (h : pre (.iconst n) (cc.data.toList.drop pc) = true) : decode cc pc = .ok (.iconst n, ilen (.iconst n)) := by
  have h2 : (decide (-1 ≤ n ∧ n ≤ 5) && o1 (n + 3).toNat (cc.data.toList.drop pc)) = true := h
  rw [Bool.and_eq_true] at h2
  have h3 := of_decide_eq_true h2.1
  have h4 := h2.2
  clear h h2
  have hn : n = -1 ∨ n = 0 ∨ n = 1 ∨ n = 2 ∨ n = 3 ∨ n = 4 ∨ n = 5 := by omega
  rcases hn with rfl | rfl | rfl | rfl | rfl | rfl | rfl
  · exact l1 (op := 2) (i := .iconst (-1)) h4 (fun p q c u => by unfold Decoder.instr; exact (rb u).trans rfl)
  · exact l1 (op := 3) (i := .iconst 0) h4 (fun p q c u => by unfold Decoder.instr; exact (rb u).trans rfl)
  · exact l1 (op := 4) (i := .iconst 1) h4 (fun p q c u => by unfold Decoder.instr; exact (rb u).trans rfl)
  · exact l1 (op := 5) (i := .iconst 2) h4 (fun p q c u => by unfold Decoder.instr; exact (rb u).trans rfl)
  · exact l1 (op := 6) (i := .iconst 3) h4 (fun p q c u => by unfold Decoder.instr; exact (rb u).trans rfl)
  · exact l1 (op := 7) (i := .iconst 4) h4 (fun p q c u => by unfold Decoder.instr; exact (rb u).trans rfl)
  · exact l1 (op := 8) (i := .iconst 5) h4 (fun p q c u => by unfold Decoder.instr; exact (rb u).trans rfl)
set_option maxRecDepth 100000 in
theorem pk_ldc {cc : ByteArray} {pc : Nat} (n : Nat) (h : pre (.ldc n) (cc.data.toList.drop pc) = true) : decode cc pc = .ok (.ldc n, ilen (.ldc n)) := by
  exact l2 (op := 18) (k := fun v => Nat.beq v n) h (fun p q r v c hk u u' => by
    have hk := Nat.eq_of_beq_eq_true hk
    subst hk
    unfold Decoder.instr
    have e0 : (do let v ← Reader.u1; pure (.ldc v) : Decoder Instr) c q = _ := rb (u')
    exact ((rb u).trans e0).trans rfl)
set_option maxRecDepth 100000 in
theorem pk_iload {cc : ByteArray} {pc : Nat} (n : Nat) (h : pre (.iload n) (cc.data.toList.drop pc) = true) : decode cc pc = .ok (.iload n, ilen (.iload n)) := by
  exact l2 (op := 21) (k := fun v => Nat.beq v n) h (fun p q r v c hk u u' => by
    have hk := Nat.eq_of_beq_eq_true hk
    subst hk
    unfold Decoder.instr
    have e0 : (do let v ← Reader.u1; pure (.iload v) : Decoder Instr) c q = _ := rb (u')
    exact ((rb u).trans e0).trans rfl)
set_option maxRecDepth 100000 in
theorem pk_lload {cc : ByteArray} {pc : Nat} (n : Nat) (h : pre (.lload n) (cc.data.toList.drop pc) = true) : decode cc pc = .ok (.lload n, ilen (.lload n)) := by
  exact l2 (op := 22) (k := fun v => Nat.beq v n) h (fun p q r v c hk u u' => by
    have hk := Nat.eq_of_beq_eq_true hk
    subst hk
    unfold Decoder.instr
    have e0 : (do let v ← Reader.u1; pure (.lload v) : Decoder Instr) c q = _ := rb (u')
    exact ((rb u).trans e0).trans rfl)
set_option maxRecDepth 100000 in
theorem pk_aload {cc : ByteArray} {pc : Nat} (n : Nat) (h : pre (.aload n) (cc.data.toList.drop pc) = true) : decode cc pc = .ok (.aload n, ilen (.aload n)) := by
  exact l2 (op := 25) (k := fun v => Nat.beq v n) h (fun p q r v c hk u u' => by
    have hk := Nat.eq_of_beq_eq_true hk
    subst hk
    unfold Decoder.instr
    have e0 : (do let v ← Reader.u1; pure (.aload v) : Decoder Instr) c q = _ := rb (u')
    exact ((rb u).trans e0).trans rfl)
set_option maxRecDepth 100000 in
theorem pk_istore {cc : ByteArray} {pc : Nat} (n : Nat) (h : pre (.istore n) (cc.data.toList.drop pc) = true) : decode cc pc = .ok (.istore n, ilen (.istore n)) := by
  exact l2 (op := 54) (k := fun v => Nat.beq v n) h (fun p q r v c hk u u' => by
    have hk := Nat.eq_of_beq_eq_true hk
    subst hk
    unfold Decoder.instr
    have e0 : (do let v ← Reader.u1; pure (.istore v) : Decoder Instr) c q = _ := rb (u')
    exact ((rb u).trans e0).trans rfl)
set_option maxRecDepth 100000 in
theorem pk_lstore {cc : ByteArray} {pc : Nat} (n : Nat) (h : pre (.lstore n) (cc.data.toList.drop pc) = true) : decode cc pc = .ok (.lstore n, ilen (.lstore n)) := by
  exact l2 (op := 55) (k := fun v => Nat.beq v n) h (fun p q r v c hk u u' => by
    have hk := Nat.eq_of_beq_eq_true hk
    subst hk
    unfold Decoder.instr
    have e0 : (do let v ← Reader.u1; pure (.lstore v) : Decoder Instr) c q = _ := rb (u')
    exact ((rb u).trans e0).trans rfl)
set_option maxRecDepth 100000 in
theorem pk_astore {cc : ByteArray} {pc : Nat} (n : Nat) (h : pre (.astore n) (cc.data.toList.drop pc) = true) : decode cc pc = .ok (.astore n, ilen (.astore n)) := by
  exact l2 (op := 58) (k := fun v => Nat.beq v n) h (fun p q r v c hk u u' => by
    have hk := Nat.eq_of_beq_eq_true hk
    subst hk
    unfold Decoder.instr
    have e0 : (do let v ← Reader.u1; pure (.astore v) : Decoder Instr) c q = _ := rb (u')
    exact ((rb u).trans e0).trans rfl)
set_option maxRecDepth 100000 in
theorem pk_bipush {cc : ByteArray} {pc : Nat} (n : Int) (h : pre (.bipush n) (cc.data.toList.drop pc) = true) : decode cc pc = .ok (.bipush n, ilen (.bipush n)) := by
  exact l2 (op := 16) (k := fun v => decide (Reader.signed 8 v = n)) h (fun p q r v c hk u u' => by
    have hk := of_decide_eq_true hk
    subst hk
    unfold Decoder.instr
    have e0 : (do let v ← Reader.s1; pure (.bipush v) : Decoder Instr) c q = _ := rb (rm u')
    exact ((rb u).trans e0).trans rfl)
set_option maxRecDepth 100000 in
theorem pk_ldc_w {cc : ByteArray} {pc : Nat} (n : Nat) (h : pre (.ldc_w n) (cc.data.toList.drop pc) = true) : decode cc pc = .ok (.ldc_w n, ilen (.ldc_w n)) := by
  exact l3 (op := 19) (k := fun v w => Nat.beq (v * 256 + w) n) h (fun p q r s v w c hk u u' u2 => by
    have hk := Nat.eq_of_beq_eq_true hk
    subst hk
    unfold Decoder.instr
    have e0 : (do let v ← Reader.u2; pure (.ldc_w v) : Decoder Instr) c q = _ := rb (u2_of u' u2)
    exact ((rb u).trans e0).trans rfl)
set_option maxRecDepth 100000 in
theorem pk_ldc2_w {cc : ByteArray} {pc : Nat} (n : Nat) (h : pre (.ldc2_w n) (cc.data.toList.drop pc) = true) : decode cc pc = .ok (.ldc2_w n, ilen (.ldc2_w n)) := by
  exact l3 (op := 20) (k := fun v w => Nat.beq (v * 256 + w) n) h (fun p q r s v w c hk u u' u2 => by
    have hk := Nat.eq_of_beq_eq_true hk
    subst hk
    unfold Decoder.instr
    have e0 : (do let v ← Reader.u2; pure (.ldc2_w v) : Decoder Instr) c q = _ := rb (u2_of u' u2)
    exact ((rb u).trans e0).trans rfl)
set_option maxRecDepth 100000 in
theorem pk_getfield {cc : ByteArray} {pc : Nat} (n : Nat) (h : pre (.getfield n) (cc.data.toList.drop pc) = true) : decode cc pc = .ok (.getfield n, ilen (.getfield n)) := by
  exact l3 (op := 180) (k := fun v w => Nat.beq (v * 256 + w) n) h (fun p q r s v w c hk u u' u2 => by
    have hk := Nat.eq_of_beq_eq_true hk
    subst hk
    unfold Decoder.instr
    have e0 : (do let v ← Reader.u2; pure (.getfield v) : Decoder Instr) c q = _ := rb (u2_of u' u2)
    exact ((rb u).trans e0).trans rfl)
set_option maxRecDepth 100000 in
theorem pk_putfield {cc : ByteArray} {pc : Nat} (n : Nat) (h : pre (.putfield n) (cc.data.toList.drop pc) = true) : decode cc pc = .ok (.putfield n, ilen (.putfield n)) := by
  exact l3 (op := 181) (k := fun v w => Nat.beq (v * 256 + w) n) h (fun p q r s v w c hk u u' u2 => by
    have hk := Nat.eq_of_beq_eq_true hk
    subst hk
    unfold Decoder.instr
    have e0 : (do let v ← Reader.u2; pure (.putfield v) : Decoder Instr) c q = _ := rb (u2_of u' u2)
    exact ((rb u).trans e0).trans rfl)
set_option maxRecDepth 100000 in
theorem pk_invokevirtual {cc : ByteArray} {pc : Nat} (n : Nat) (h : pre (.invokevirtual n) (cc.data.toList.drop pc) = true) : decode cc pc = .ok (.invokevirtual n, ilen (.invokevirtual n)) := by
  exact l3 (op := 182) (k := fun v w => Nat.beq (v * 256 + w) n) h (fun p q r s v w c hk u u' u2 => by
    have hk := Nat.eq_of_beq_eq_true hk
    subst hk
    unfold Decoder.instr
    have e0 : (do let v ← Reader.u2; pure (.invokevirtual v) : Decoder Instr) c q = _ := rb (u2_of u' u2)
    exact ((rb u).trans e0).trans rfl)
set_option maxRecDepth 100000 in
theorem pk_invokespecial {cc : ByteArray} {pc : Nat} (n : Nat) (h : pre (.invokespecial n) (cc.data.toList.drop pc) = true) : decode cc pc = .ok (.invokespecial n, ilen (.invokespecial n)) := by
  exact l3 (op := 183) (k := fun v w => Nat.beq (v * 256 + w) n) h (fun p q r s v w c hk u u' u2 => by
    have hk := Nat.eq_of_beq_eq_true hk
    subst hk
    unfold Decoder.instr
    have e0 : (do let v ← Reader.u2; pure (.invokespecial v) : Decoder Instr) c q = _ := rb (u2_of u' u2)
    exact ((rb u).trans e0).trans rfl)
set_option maxRecDepth 100000 in
theorem pk_invokestatic {cc : ByteArray} {pc : Nat} (n : Nat) (h : pre (.invokestatic n) (cc.data.toList.drop pc) = true) : decode cc pc = .ok (.invokestatic n, ilen (.invokestatic n)) := by
  exact l3 (op := 184) (k := fun v w => Nat.beq (v * 256 + w) n) h (fun p q r s v w c hk u u' u2 => by
    have hk := Nat.eq_of_beq_eq_true hk
    subst hk
    unfold Decoder.instr
    have e0 : (do let v ← Reader.u2; pure (.invokestatic v) : Decoder Instr) c q = _ := rb (u2_of u' u2)
    exact ((rb u).trans e0).trans rfl)
set_option maxRecDepth 100000 in
theorem pk_new {cc : ByteArray} {pc : Nat} (n : Nat) (h : pre (.new n) (cc.data.toList.drop pc) = true) : decode cc pc = .ok (.new n, ilen (.new n)) := by
  exact l3 (op := 187) (k := fun v w => Nat.beq (v * 256 + w) n) h (fun p q r s v w c hk u u' u2 => by
    have hk := Nat.eq_of_beq_eq_true hk
    subst hk
    unfold Decoder.instr
    have e0 : (do let v ← Reader.u2; pure (.new v) : Decoder Instr) c q = _ := rb (u2_of u' u2)
    exact ((rb u).trans e0).trans rfl)
set_option maxRecDepth 100000 in
theorem pk_anewarray {cc : ByteArray} {pc : Nat} (n : Nat) (h : pre (.anewarray n) (cc.data.toList.drop pc) = true) : decode cc pc = .ok (.anewarray n, ilen (.anewarray n)) := by
  exact l3 (op := 189) (k := fun v w => Nat.beq (v * 256 + w) n) h (fun p q r s v w c hk u u' u2 => by
    have hk := Nat.eq_of_beq_eq_true hk
    subst hk
    unfold Decoder.instr
    have e0 : (do let v ← Reader.u2; pure (.anewarray v) : Decoder Instr) c q = _ := rb (u2_of u' u2)
    exact ((rb u).trans e0).trans rfl)
set_option maxRecDepth 100000 in
theorem pk_sipush {cc : ByteArray} {pc : Nat} (n : Int) (h : pre (.sipush n) (cc.data.toList.drop pc) = true) : decode cc pc = .ok (.sipush n, ilen (.sipush n)) := by
  exact l3 (op := 17) (k := fun v w => decide (Reader.signed 16 (v * 256 + w) = n)) h (fun p q r s v w c hk u u' u2 => by
    have hk := of_decide_eq_true hk
    subst hk
    unfold Decoder.instr
    have e0 : (do let v ← Reader.s2; pure (.sipush v) : Decoder Instr) c q = _ := rb (rm (u2_of u' u2))
    exact ((rb u).trans e0).trans rfl)
set_option maxRecDepth 100000 in
theorem pk_goto {cc : ByteArray} {pc : Nat} (n : Int) (h : pre (.goto n) (cc.data.toList.drop pc) = true) : decode cc pc = .ok (.goto n, ilen (.goto n)) := by
  exact l3 (op := 167) (k := fun v w => decide (Reader.signed 16 (v * 256 + w) = n)) h (fun p q r s v w c hk u u' u2 => by
    have hk := of_decide_eq_true hk
    subst hk
    unfold Decoder.instr
    have e0 : (do let v ← Reader.s2; pure (.goto v) : Decoder Instr) c q = _ := rb (rm (u2_of u' u2))
    exact ((rb u).trans e0).trans rfl)
set_option maxRecDepth 100000 in
theorem pk_ifCond {cc : ByteArray} {pc : Nat} (d : Jvm.ClassFile.Cond) (n : Int) (h : pre (.ifCond d n) (cc.data.toList.drop pc) = true) : decode cc pc = .ok (.ifCond d n, ilen (.ifCond d n)) := by
  cases d with
  | eq =>
    exact l3 (op := 153) (k := fun v w => decide (Reader.signed 16 (v * 256 + w) = n)) h (fun p q r s v w c hk u u' u2 => by
      have hk := of_decide_eq_true hk
      subst hk
      unfold Decoder.instr
      have e0 : (do let v ← Reader.s2; pure (.ifCond .eq v) : Decoder Instr) c q = _ := rb (rm (u2_of u' u2))
      exact ((rb u).trans e0).trans rfl)
  | ne =>
    exact l3 (op := 154) (k := fun v w => decide (Reader.signed 16 (v * 256 + w) = n)) h (fun p q r s v w c hk u u' u2 => by
      have hk := of_decide_eq_true hk
      subst hk
      unfold Decoder.instr
      have e0 : (do let v ← Reader.s2; pure (.ifCond .ne v) : Decoder Instr) c q = _ := rb (rm (u2_of u' u2))
      exact ((rb u).trans e0).trans rfl)
  | lt =>
    exact l3 (op := 155) (k := fun v w => decide (Reader.signed 16 (v * 256 + w) = n)) h (fun p q r s v w c hk u u' u2 => by
      have hk := of_decide_eq_true hk
      subst hk
      unfold Decoder.instr
      have e0 : (do let v ← Reader.s2; pure (.ifCond .lt v) : Decoder Instr) c q = _ := rb (rm (u2_of u' u2))
      exact ((rb u).trans e0).trans rfl)
  | ge =>
    exact l3 (op := 156) (k := fun v w => decide (Reader.signed 16 (v * 256 + w) = n)) h (fun p q r s v w c hk u u' u2 => by
      have hk := of_decide_eq_true hk
      subst hk
      unfold Decoder.instr
      have e0 : (do let v ← Reader.s2; pure (.ifCond .ge v) : Decoder Instr) c q = _ := rb (rm (u2_of u' u2))
      exact ((rb u).trans e0).trans rfl)
  | gt =>
    exact l3 (op := 157) (k := fun v w => decide (Reader.signed 16 (v * 256 + w) = n)) h (fun p q r s v w c hk u u' u2 => by
      have hk := of_decide_eq_true hk
      subst hk
      unfold Decoder.instr
      have e0 : (do let v ← Reader.s2; pure (.ifCond .gt v) : Decoder Instr) c q = _ := rb (rm (u2_of u' u2))
      exact ((rb u).trans e0).trans rfl)
  | le =>
    exact l3 (op := 158) (k := fun v w => decide (Reader.signed 16 (v * 256 + w) = n)) h (fun p q r s v w c hk u u' u2 => by
      have hk := of_decide_eq_true hk
      subst hk
      unfold Decoder.instr
      have e0 : (do let v ← Reader.s2; pure (.ifCond .le v) : Decoder Instr) c q = _ := rb (rm (u2_of u' u2))
      exact ((rb u).trans e0).trans rfl)
set_option maxRecDepth 100000 in
theorem pk_if_icmp {cc : ByteArray} {pc : Nat} (d : Jvm.ClassFile.Cond) (n : Int) (h : pre (.if_icmp d n) (cc.data.toList.drop pc) = true) : decode cc pc = .ok (.if_icmp d n, ilen (.if_icmp d n)) := by
  cases d with
  | eq =>
    exact l3 (op := 159) (k := fun v w => decide (Reader.signed 16 (v * 256 + w) = n)) h (fun p q r s v w c hk u u' u2 => by
      have hk := of_decide_eq_true hk
      subst hk
      unfold Decoder.instr
      have e0 : (do let v ← Reader.s2; pure (.if_icmp .eq v) : Decoder Instr) c q = _ := rb (rm (u2_of u' u2))
      exact ((rb u).trans e0).trans rfl)
  | ne =>
    exact l3 (op := 160) (k := fun v w => decide (Reader.signed 16 (v * 256 + w) = n)) h (fun p q r s v w c hk u u' u2 => by
      have hk := of_decide_eq_true hk
      subst hk
      unfold Decoder.instr
      have e0 : (do let v ← Reader.s2; pure (.if_icmp .ne v) : Decoder Instr) c q = _ := rb (rm (u2_of u' u2))
      exact ((rb u).trans e0).trans rfl)
  | lt =>
    exact l3 (op := 161) (k := fun v w => decide (Reader.signed 16 (v * 256 + w) = n)) h (fun p q r s v w c hk u u' u2 => by
      have hk := of_decide_eq_true hk
      subst hk
      unfold Decoder.instr
      have e0 : (do let v ← Reader.s2; pure (.if_icmp .lt v) : Decoder Instr) c q = _ := rb (rm (u2_of u' u2))
      exact ((rb u).trans e0).trans rfl)
  | ge =>
    exact l3 (op := 162) (k := fun v w => decide (Reader.signed 16 (v * 256 + w) = n)) h (fun p q r s v w c hk u u' u2 => by
      have hk := of_decide_eq_true hk
      subst hk
      unfold Decoder.instr
      have e0 : (do let v ← Reader.s2; pure (.if_icmp .ge v) : Decoder Instr) c q = _ := rb (rm (u2_of u' u2))
      exact ((rb u).trans e0).trans rfl)
  | gt =>
    exact l3 (op := 163) (k := fun v w => decide (Reader.signed 16 (v * 256 + w) = n)) h (fun p q r s v w c hk u u' u2 => by
      have hk := of_decide_eq_true hk
      subst hk
      unfold Decoder.instr
      have e0 : (do let v ← Reader.s2; pure (.if_icmp .gt v) : Decoder Instr) c q = _ := rb (rm (u2_of u' u2))
      exact ((rb u).trans e0).trans rfl)
  | le =>
    exact l3 (op := 164) (k := fun v w => decide (Reader.signed 16 (v * 256 + w) = n)) h (fun p q r s v w c hk u u' u2 => by
      have hk := of_decide_eq_true hk
      subst hk
      unfold Decoder.instr
      have e0 : (do let v ← Reader.s2; pure (.if_icmp .le v) : Decoder Instr) c q = _ := rb (rm (u2_of u' u2))
      exact ((rb u).trans e0).trans rfl)
set_option maxRecDepth 100000 in
theorem pk_iinc {cc : ByteArray} {pc : Nat} (j : Nat) (n : Int) (h : pre (.iinc j n) (cc.data.toList.drop pc) = true) : decode cc pc = .ok (.iinc j n, ilen (.iinc j n)) := by
  exact l3 (op := 132) (k := fun v w => Nat.beq v j && decide (Reader.signed 8 w = n)) h (fun p q r s v w c hk u u' u2 => by
    rw [Bool.and_eq_true] at hk
    have hj := Nat.eq_of_beq_eq_true hk.1
    have hn := of_decide_eq_true hk.2
    subst hj
    subst hn
    unfold Decoder.instr
    have e1 : (do let b ← Reader.s1; pure (Instr.iinc v b) : Decoder Instr) c r = _ := rb (rm u2)
    have e0 : (do let a ← Reader.u1; let b ← Reader.s1; pure (Instr.iinc a b) : Decoder Instr) c q = _ := rb u'
    exact (((rb u).trans e0).trans e1).trans rfl)
set_option maxRecDepth 100000 in
theorem pk_newarray {cc : ByteArray} {pc : Nat} (a : Jvm.ClassFile.ArrayType) (h : pre (.newarray a) (cc.data.toList.drop pc) = true) : decode cc pc = .ok (.newarray a, ilen (.newarray a)) := by
  cases a with
  | boolean => exact l2 (op := 188) (k := fun v => Nat.beq v 4) h (fun p q r v c hk u u' => by
      have hk := Nat.eq_of_beq_eq_true hk
      rw [hk] at u'
      unfold Decoder.instr
      have e0 : Decoder.newarray p c q = Except.ok (Instr.newarray .boolean, r) := by
        unfold Decoder.newarray
        exact (rb u').trans rfl
      exact (rb u).trans e0)
  | char => exact l2 (op := 188) (k := fun v => Nat.beq v 5) h (fun p q r v c hk u u' => by
      have hk := Nat.eq_of_beq_eq_true hk
      rw [hk] at u'
      unfold Decoder.instr
      have e0 : Decoder.newarray p c q = Except.ok (Instr.newarray .char, r) := by
        unfold Decoder.newarray
        exact (rb u').trans rfl
      exact (rb u).trans e0)
  | float => exact l2 (op := 188) (k := fun v => Nat.beq v 6) h (fun p q r v c hk u u' => by
      have hk := Nat.eq_of_beq_eq_true hk
      rw [hk] at u'
      unfold Decoder.instr
      have e0 : Decoder.newarray p c q = Except.ok (Instr.newarray .float, r) := by
        unfold Decoder.newarray
        exact (rb u').trans rfl
      exact (rb u).trans e0)
  | double => exact l2 (op := 188) (k := fun v => Nat.beq v 7) h (fun p q r v c hk u u' => by
      have hk := Nat.eq_of_beq_eq_true hk
      rw [hk] at u'
      unfold Decoder.instr
      have e0 : Decoder.newarray p c q = Except.ok (Instr.newarray .double, r) := by
        unfold Decoder.newarray
        exact (rb u').trans rfl
      exact (rb u).trans e0)
  | byte => exact l2 (op := 188) (k := fun v => Nat.beq v 8) h (fun p q r v c hk u u' => by
      have hk := Nat.eq_of_beq_eq_true hk
      rw [hk] at u'
      unfold Decoder.instr
      have e0 : Decoder.newarray p c q = Except.ok (Instr.newarray .byte, r) := by
        unfold Decoder.newarray
        exact (rb u').trans rfl
      exact (rb u).trans e0)
  | short => exact l2 (op := 188) (k := fun v => Nat.beq v 9) h (fun p q r v c hk u u' => by
      have hk := Nat.eq_of_beq_eq_true hk
      rw [hk] at u'
      unfold Decoder.instr
      have e0 : Decoder.newarray p c q = Except.ok (Instr.newarray .short, r) := by
        unfold Decoder.newarray
        exact (rb u').trans rfl
      exact (rb u).trans e0)
  | int => exact l2 (op := 188) (k := fun v => Nat.beq v 10) h (fun p q r v c hk u u' => by
      have hk := Nat.eq_of_beq_eq_true hk
      rw [hk] at u'
      unfold Decoder.instr
      have e0 : Decoder.newarray p c q = Except.ok (Instr.newarray .int, r) := by
        unfold Decoder.newarray
        exact (rb u').trans rfl
      exact (rb u).trans e0)
  | long => exact l2 (op := 188) (k := fun v => Nat.beq v 11) h (fun p q r v c hk u u' => by
      have hk := Nat.eq_of_beq_eq_true hk
      rw [hk] at u'
      unfold Decoder.instr
      have e0 : Decoder.newarray p c q = Except.ok (Instr.newarray .long, r) := by
        unfold Decoder.newarray
        exact (rb u').trans rfl
      exact (rb u).trans e0)
set_option maxRecDepth 100000 in
theorem pre_ok {cc : ByteArray} {pc : Nat} {i : Instr} (h : pre i (cc.data.toList.drop pc) = true) : decode cc pc = .ok (i, ilen i) := by
  cases i with
  | aaload => exact pk_aaload h
  | aastore => exact pk_aastore h
  | areturn => exact pk_areturn h
  | arraylength => exact pk_arraylength h
  | baload => exact pk_baload h
  | bastore => exact pk_bastore h
  | dup => exact pk_dup h
  | dup2 => exact pk_dup2 h
  | i2l => exact pk_i2l h
  | iadd => exact pk_iadd h
  | iaload => exact pk_iaload h
  | iand => exact pk_iand h
  | iastore => exact pk_iastore h
  | idiv => exact pk_idiv h
  | imul => exact pk_imul h
  | ineg => exact pk_ineg h
  | ior => exact pk_ior h
  | irem => exact pk_irem h
  | ireturn => exact pk_ireturn h
  | ishl => exact pk_ishl h
  | ishr => exact pk_ishr h
  | isub => exact pk_isub h
  | iushr => exact pk_iushr h
  | ixor => exact pk_ixor h
  | l2i => exact pk_l2i h
  | ladd => exact pk_ladd h
  | laload => exact pk_laload h
  | land => exact pk_land h
  | lastore => exact pk_lastore h
  | lcmp => exact pk_lcmp h
  | ldiv => exact pk_ldiv h
  | lmul => exact pk_lmul h
  | lneg => exact pk_lneg h
  | lor => exact pk_lor h
  | lreturn => exact pk_lreturn h
  | lshl => exact pk_lshl h
  | lshr => exact pk_lshr h
  | lsub => exact pk_lsub h
  | lushr => exact pk_lushr h
  | lxor => exact pk_lxor h
  | pop => exact pk_pop h
  | pop2 => exact pk_pop2 h
  | return_ => exact pk_return_ h
  | iload_n n => exact pk_iload_n n h
  | lload_n n => exact pk_lload_n n h
  | aload_n n => exact pk_aload_n n h
  | istore_n n => exact pk_istore_n n h
  | lstore_n n => exact pk_lstore_n n h
  | astore_n n => exact pk_astore_n n h
  | lconst n => exact pk_lconst n h
  | iconst n => exact pk_iconst n h
  | ldc n => exact pk_ldc n h
  | iload n => exact pk_iload n h
  | lload n => exact pk_lload n h
  | aload n => exact pk_aload n h
  | istore n => exact pk_istore n h
  | lstore n => exact pk_lstore n h
  | astore n => exact pk_astore n h
  | bipush n => exact pk_bipush n h
  | ldc_w n => exact pk_ldc_w n h
  | ldc2_w n => exact pk_ldc2_w n h
  | getfield n => exact pk_getfield n h
  | putfield n => exact pk_putfield n h
  | invokevirtual n => exact pk_invokevirtual n h
  | invokespecial n => exact pk_invokespecial n h
  | invokestatic n => exact pk_invokestatic n h
  | new n => exact pk_new n h
  | anewarray n => exact pk_anewarray n h
  | sipush n => exact pk_sipush n h
  | goto n => exact pk_goto n h
  | ifCond d n => exact pk_ifCond d n h
  | if_icmp d n => exact pk_if_icmp d n h
  | iinc j n => exact pk_iinc j n h
  | newarray a => exact pk_newarray a h
  | _ => exact absurd (show false = true from h) Bool.false_ne_true
def isSw (i : Instr) : Bool := match i with
  | .tableswitch _ _ _ _ => true
  | .lookupswitch _ _ => true
  | _ => false
set_option maxRecDepth 100000 in
theorem chkE_el {cc : ByteArray} {nL : Nat} {cl : Cl} {oi : Nat → Bool} {pc nx : Nat} {tg : List Nat} {i : Instr} (h : isSw i = false) : chkE cc nL cl oi (pc, i, nx, tg) = (decide (decode cc pc = .ok (i, ilen i)) && (Nat.beq nx (pc + ilen i) && exE nL cl oi pc tg i)) := by
  cases i <;> first | rfl | exact absurd (show true = false from h) (by decide)
/-- a table walked along its bytes -/
def wlk (cc : ByteArray) (nL : Nat) (cl : Cl) (oi : Nat → Bool) : Tab → Nat → List UInt8 → Bool
  | [], _, _ => true
  | e :: t, pc, bs => Nat.beq e.1 pc && (bif isSw e.2.1 then chkE cc nL cl oi e && wlk cc nL cl oi t (pc + e.2.2.1) (bs.drop e.2.2.1) else pre e.2.1 bs && (Nat.beq e.2.2.1 (pc + ilen e.2.1) && (exE nL cl oi pc e.2.2.2 e.2.1 && wlk cc nL cl oi t (pc + ilen e.2.1) (bs.drop (ilen e.2.1)))))
theorem wlk_all {cc : ByteArray} {nL : Nat} {cl : Cl} {oi : Nat → Bool} : ∀ (tb : Tab) (pc : Nat), wlk cc nL cl oi tb pc (cc.data.toList.drop pc) = true → tb.all (chkE cc nL cl oi) = true
  | [], _, _ => rfl
  | (p, i, nx, tg) :: t, pc, h => by
    have h' : (Nat.beq p pc && (bif isSw i then chkE cc nL cl oi (p, i, nx, tg) && wlk cc nL cl oi t (pc + nx) ((cc.data.toList.drop pc).drop nx) else pre i (cc.data.toList.drop pc) && (Nat.beq nx (pc + ilen i) && (exE nL cl oi pc tg i && wlk cc nL cl oi t (pc + ilen i) ((cc.data.toList.drop pc).drop (ilen i)))))) = true := h
    rw [Bool.and_eq_true] at h'
    obtain ⟨h1, h2⟩ := h'
    have e := Nat.eq_of_beq_eq_true h1
    subst e
    rw [List.all_cons, Bool.and_eq_true]
    cases hs : isSw i with
    | true =>
      rw [hs, cond_true, Bool.and_eq_true, List.drop_drop] at h2
      exact ⟨h2.1, wlk_all t (p + nx) h2.2⟩
    | false =>
      rw [hs, cond_false, Bool.and_eq_true, Bool.and_eq_true, Bool.and_eq_true, List.drop_drop] at h2
      obtain ⟨a, b, c, d⟩ := h2
      refine ⟨?_, wlk_all t (p + ilen i) d⟩
      rw [chkE_el hs, b, c, decide_eq_true (pre_ok a)]
      rfl
theorem wlk_of {cc : ByteArray} {nL : Nat} {cl : Cl} {oi : Nat → Bool} {tb : Tab} (pc : Nat) (h : wlk cc nL cl oi tb pc (cc.data.toList.drop pc) = true) : tb.all (chkE cc nL cl oi) = true := wlk_all tb pc h
