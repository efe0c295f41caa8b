/-! ===== THE PURE MACHINE: a method's steps over whole numbers; a run is the least predicate closed under the steps read backwards ===== -/
abbrev PV : Type := Int ⊕ (Int ⊕ Nat)
abbrev vi (a : Int) : PV := Sum.inl a
abbrev vl (a : Int) : PV := Sum.inr (Sum.inl a)
abbrev vr (o : Nat) : PV := Sum.inr (Sum.inr o)
/-- how many objects; their numbers; their references (0: null) -/
abbrev St : Type := Nat × (Nat → Nat → Int) × (Nat → Nat → Nat)
abbrev LoT : Type := List (Nat × PV)
abbrev GT : Type := Nat → LoT → List PV → St → Prop
def w32 (a : Int) : Int := (a + 2147483648) % 4294967296 - 2147483648
def w64 (a : Int) : Int := (a + 9223372036854775808) % 18446744073709551616 - 9223372036854775808
def okI (a : Int) : Prop := -2147483648 ≤ a ∧ a ≤ 2147483647
def okL (a : Int) : Prop := -9223372036854775808 ≤ a ∧ a ≤ 9223372036854775807
def okV (n : Nat) (v : PV) : Prop := match v with
  | .inl a => okI a
  | .inr (.inl a) => okL a
  | .inr (.inr o) => o ≤ n
def pcat (v : PV) : Nat := match v with
  | .inr (.inl _) => 2
  | _ => 1
def psum (vs : List PV) : Nat := match vs with
  | [] => 0
  | v :: t => pcat v + psum t
def upZ (Z : Nat → Nat → Int) (o k : Nat) (a : Int) : Nat → Nat → Int := fun p q => if p = o ∧ q = k then a else Z p q
def upR (Z : Nat → Nat → Nat) (o k : Nat) (a : Nat) : Nat → Nat → Nat := fun p q => if p = o ∧ q = k then a else Z p q
def zrZ (Z : Nat → Nat → Int) (o : Nat) : Nat → Nat → Int := fun p q => if p = o then 0 else Z p q
def zrR (Z : Nat → Nat → Nat) (o : Nat) : Nat → Nat → Nat := fun p q => if p = o then 0 else Z p q
def lk (l : LoT) (i : Nat) : Option PV := match l with
  | [] => none
  | (j, v) :: t => bif Nat.beq j i then some v else lk t i
def kp1 (i : Nat) (q : Nat × PV) : Bool := !(Nat.beq q.1 i) && !(Nat.beq (q.1 + 1) i && Nat.beq (pcat q.2) 2)
def kp2 (i : Nat) (q : Nat × PV) : Bool := !(Nat.beq q.1 i) && (!(Nat.beq q.1 (i + 1)) && !(Nat.beq (q.1 + 1) i && Nat.beq (pcat q.2) 2))
def st1 (l : LoT) (i : Nat) (v : PV) : LoT := (i, v) :: l.filter (kp1 i)
def st2 (l : LoT) (i : Nat) (v : PV) : LoT := (i, v) :: l.filter (kp2 i)
def and32 (a b : Int) : Int := (Int32.ofInt a &&& Int32.ofInt b).toInt
def or32 (a b : Int) : Int := (Int32.ofInt a ||| Int32.ofInt b).toInt
def xor32 (a b : Int) : Int := (Int32.ofInt a ^^^ Int32.ofInt b).toInt
def shl32 (a b : Int) : Int := (Int32.ofInt a <<< (Int32.ofInt b &&& 31)).toInt
def shr32 (a b : Int) : Int := (Int32.ofInt a >>> (Int32.ofInt b &&& 31)).toInt
def ushr32 (a b : Int) : Int := ((Int32.ofInt a).toUInt32 >>> ((Int32.ofInt b).toUInt32 &&& Int32.toUInt32 31)).toInt32.toInt
def and64 (a b : Int) : Int := (Int64.ofInt a &&& Int64.ofInt b).toInt
def or64 (a b : Int) : Int := (Int64.ofInt a ||| Int64.ofInt b).toInt
def xor64 (a b : Int) : Int := (Int64.ofInt a ^^^ Int64.ofInt b).toInt
def shl64 (a b : Int) : Int := (Int64.ofInt a <<< ((Int32.ofInt b).toInt64 &&& 63)).toInt
def shr64 (a b : Int) : Int := (Int64.ofInt a >>> ((Int32.ofInt b).toInt64 &&& 63)).toInt
def ushr64 (a b : Int) : Int := ((Int64.ofInt a).toUInt64 >>> ((Int32.ofInt b).toInt64.toUInt64 &&& Int64.toUInt64 63)).toInt64.toInt
def cmp3 (a b : Int) : Int := if b < a then 1 else if a = b then 0 else -1
def cmpI (c : ClassFile.Cond) (a b : Int) : Prop := match c with
  | .eq => a = b
  | .ne => a ≠ b
  | .lt => a < b
  | .ge => b ≤ a
  | .gt => b < a
  | .le => a ≤ b
/-- a switch's ways -/
def swT (k : Nat → Prop) (ts : List Nat) (lo : Int) (x : Int) : Prop := match ts with
  | [] => True
  | t :: r => (x = lo → k t) ∧ swT k r (lo + 1) x
def swL (k : Nat → Prop) (d : Nat) (ts : List Nat) (ps : List (Int × Int)) (x : Int) : Prop := match ts, ps with
  | t :: r, (a, _) :: q => (x = a → k t) ∧ (x ≠ a → swL k d r q x)
  | _, _ => k d
/-- what a call is: how many arguments (with the receiver), the receiver's class, how many objects it makes, before, behind -/
abbrev Sp : Type := Nat × Nat × Nat × (List PV → St → Prop) × (List PV → St → Option PV → St → Prop)
/-- what a method's own code speaks of: fields (class, place), ints, longs, classes, calls, Object's constructor, kind of return, is it a constructor, the script -/
abbrev Pool : Type := (Nat → Option (Nat × Nat)) × (Nat → Option Int) × (Nat → Option Int) × (Nat → Option Nat)
abbrev Scr : Type := Option (Nat × (Nat → Int))
def callG (sp : Sp) (lim : Nat) (G : List PV → St → Prop) (st : List PV) (σ : St) : Prop :=
  (Nat.ble sp.1 st.length && (Nat.ble (psum (st.drop sp.1)) 8 && (Nat.beq sp.2.2.1 0 || Nat.ble (σ.1 + sp.2.2.1) lim))) = true ∧ sp.2.2.2.1 (st.take sp.1).reverse σ ∧ ∀ (r : Option PV) (σ' : St), sp.2.2.2.2 (st.take sp.1).reverse σ r σ' → G (r.toList ++ st.drop sp.1) σ'
def recvG (ci : Nat) (as : List PV) : Prop := match as with
  | .inr (.inr o) :: _ => (fK o).1 = 10 + ci
  | _ => False
def aIn (o : Nat) (t : Nat) (j : Int) : Prop := (fK o).1 = t ∧ 0 ≤ j ∧ j < (fK o).2
def stepI (P : Pool) (sp : Nat → Sp) (oi : Nat → Bool) (rt : Nat) (ini : Nat) (lim : Nat) (scr : Scr) (Q : Option PV → St → Prop) (G : GT) (nx : Nat) (tg : List Nat) (i : Instr) (l : LoT) (st : List PV) (σ : St) : Prop :=
  match i with
  | .iconst n => G nx l (vi n :: st) σ
  | .bipush n => G nx l (vi n :: st) σ
  | .sipush n => G nx l (vi n :: st) σ
  | .lconst n => match n with
    | ⟨0, _⟩ => G nx l (vl 0 :: st) σ
    | ⟨_ + 1, _⟩ => G nx l (vl 1 :: st) σ
  | .ldc n => match P.2.1 n with
    | some a => G nx l (vi a :: st) σ
    | none => False
  | .ldc_w n => match P.2.1 n with
    | some a => G nx l (vi a :: st) σ
    | none => False
  | .ldc2_w n => match P.2.2.1 n with
    | some a => G nx l (vl a :: st) σ
    | none => False
  | .iload j => match lk l j with
    | some (.inl a) => G nx l (vi a :: st) σ
    | _ => False
  | .iload_n j => match lk l j.val with
    | some (.inl a) => G nx l (vi a :: st) σ
    | _ => False
  | .lload j => match lk l j with
    | some (.inr (.inl a)) => G nx l (vl a :: st) σ
    | _ => False
  | .lload_n j => match lk l j.val with
    | some (.inr (.inl a)) => G nx l (vl a :: st) σ
    | _ => False
  | .aload j => match lk l j with
    | some (.inr (.inr a)) => G nx l (vr a :: st) σ
    | _ => False
  | .aload_n j => match lk l j.val with
    | some (.inr (.inr a)) => G nx l (vr a :: st) σ
    | _ => False
  | .istore j => match st with
    | .inl a :: r => G nx (st1 l j (vi a)) r σ
    | _ => False
  | .istore_n j => match st with
    | .inl a :: r => G nx (st1 l j.val (vi a)) r σ
    | _ => False
  | .lstore j => match st with
    | .inr (.inl a) :: r => G nx (st2 l j (vl a)) r σ
    | _ => False
  | .lstore_n j => match st with
    | .inr (.inl a) :: r => G nx (st2 l j.val (vl a)) r σ
    | _ => False
  | .astore j => match st with
    | .inr (.inr a) :: r => G nx (st1 l j (vr a)) r σ
    | _ => False
  | .astore_n j => match st with
    | .inr (.inr a) :: r => G nx (st1 l j.val (vr a)) r σ
    | _ => False
  | .iinc j n => match lk l j with
    | some (.inl a) => G nx (st1 l j (vi (w32 (a + n)))) st σ
    | _ => False
  | .iadd => match st with
    | .inl b :: .inl a :: r => G nx l (vi (w32 (a + b)) :: r) σ
    | _ => False
  | .isub => match st with
    | .inl b :: .inl a :: r => G nx l (vi (w32 (a - b)) :: r) σ
    | _ => False
  | .imul => match st with
    | .inl b :: .inl a :: r => G nx l (vi (w32 (a * b)) :: r) σ
    | _ => False
  | .idiv => match st with
    | .inl b :: .inl a :: r => b ≠ 0 ∧ G nx l (vi (w32 (Int.tdiv a b)) :: r) σ
    | _ => False
  | .irem => match st with
    | .inl b :: .inl a :: r => b ≠ 0 ∧ G nx l (vi (Int.tmod a b) :: r) σ
    | _ => False
  | .ineg => match st with
    | .inl a :: r => G nx l (vi (w32 (-a)) :: r) σ
    | _ => False
  | .iand => match st with
    | .inl b :: .inl a :: r => G nx l (vi (and32 a b) :: r) σ
    | _ => False
  | .ior => match st with
    | .inl b :: .inl a :: r => G nx l (vi (or32 a b) :: r) σ
    | _ => False
  | .ixor => match st with
    | .inl b :: .inl a :: r => G nx l (vi (xor32 a b) :: r) σ
    | _ => False
  | .ishl => match st with
    | .inl b :: .inl a :: r => G nx l (vi (shl32 a b) :: r) σ
    | _ => False
  | .ishr => match st with
    | .inl b :: .inl a :: r => G nx l (vi (shr32 a b) :: r) σ
    | _ => False
  | .iushr => match st with
    | .inl b :: .inl a :: r => G nx l (vi (ushr32 a b) :: r) σ
    | _ => False
  | .ladd => match st with
    | .inr (.inl b) :: .inr (.inl a) :: r => G nx l (vl (w64 (a + b)) :: r) σ
    | _ => False
  | .lsub => match st with
    | .inr (.inl b) :: .inr (.inl a) :: r => G nx l (vl (w64 (a - b)) :: r) σ
    | _ => False
  | .lmul => match st with
    | .inr (.inl b) :: .inr (.inl a) :: r => G nx l (vl (w64 (a * b)) :: r) σ
    | _ => False
  | .ldiv => match st with
    | .inr (.inl b) :: .inr (.inl a) :: r => b ≠ 0 ∧ G nx l (vl (w64 (Int.tdiv a b)) :: r) σ
    | _ => False
  | .lneg => match st with
    | .inr (.inl a) :: r => G nx l (vl (w64 (-a)) :: r) σ
    | _ => False
  | .land => match st with
    | .inr (.inl b) :: .inr (.inl a) :: r => G nx l (vl (and64 a b) :: r) σ
    | _ => False
  | .lor => match st with
    | .inr (.inl b) :: .inr (.inl a) :: r => G nx l (vl (or64 a b) :: r) σ
    | _ => False
  | .lxor => match st with
    | .inr (.inl b) :: .inr (.inl a) :: r => G nx l (vl (xor64 a b) :: r) σ
    | _ => False
  | .lshl => match st with
    | .inl b :: .inr (.inl a) :: r => G nx l (vl (shl64 a b) :: r) σ
    | _ => False
  | .lshr => match st with
    | .inl b :: .inr (.inl a) :: r => G nx l (vl (shr64 a b) :: r) σ
    | _ => False
  | .lushr => match st with
    | .inl b :: .inr (.inl a) :: r => G nx l (vl (ushr64 a b) :: r) σ
    | _ => False
  | .i2l => match st with
    | .inl a :: r => G nx l (vl a :: r) σ
    | _ => False
  | .l2i => match st with
    | .inr (.inl a) :: r => G nx l (vi (w32 a) :: r) σ
    | _ => False
  | .lcmp => match st with
    | .inr (.inl b) :: .inr (.inl a) :: r => G nx l (vi (cmp3 a b) :: r) σ
    | _ => False
  | .dup => match st with
    | .inl a :: r => G nx l (vi a :: vi a :: r) σ
    | .inr (.inr a) :: r => G nx l (vr a :: vr a :: r) σ
    | _ => False
  | .dup2 => match st with
    | .inl b :: .inl a :: r => G nx l (vi b :: vi a :: vi b :: vi a :: r) σ
    | .inl b :: .inr (.inr a) :: r => G nx l (vi b :: vr a :: vi b :: vr a :: r) σ
    | _ => False
  | .pop => match st with
    | .inl _ :: r => G nx l r σ
    | .inr (.inr _) :: r => G nx l r σ
    | _ => False
  | .pop2 => match st with
    | .inr (.inl _) :: r => G nx l r σ
    | _ => False
  | .goto _ => match tg with
    | [t] => G t l st σ
    | _ => False
  | .ifCond c _ => match tg, st with
    | [t], .inl a :: r => (cmpI c a 0 → G t l r σ) ∧ (¬ cmpI c a 0 → G nx l r σ)
    | _, _ => False
  | .if_icmp c _ => match tg, st with
    | [t], .inl b :: .inl a :: r => (cmpI c a b → G t l r σ) ∧ (¬ cmpI c a b → G nx l r σ)
    | _, _ => False
  | .tableswitch _ lo hi _ => match tg, st with
    | d :: ts, .inl a :: r => swT (fun t => G t l r σ) ts lo a ∧ (a < lo ∨ hi < a → G d l r σ)
    | _, _ => False
  | .lookupswitch _ ps => match tg, st with
    | d :: ts, .inl a :: r => swL (fun t => G t l r σ) d ts ps.toList a
    | _, _ => False
  | .getfield n => match st, P.1 n with
    | .inr (.inr o) :: r, some (ci, k) => match Nat.beq (fK o).1 (10 + ci) with
      | true => match fkR ci k with
        | true => match σ.2.2 o k with
          | 0 => False
          | q + 1 => G nx l (vr (q + 1) :: r) σ
        | false => G nx l (vi (σ.2.1 o k) :: r) σ
      | false => False
    | _, _ => False
  | .putfield n => match st, P.1 n with
    | .inr (.inr x) :: .inr (.inr o) :: r, some (ci, k) => match (Nat.beq (fK o).1 (10 + ci) && (fkR ci k && (!(ffin ci k) || Nat.beq ini (ci + 1)))) with
      | true => match x with
        | 0 => False
        | q + 1 => G nx l r (σ.1, σ.2.1, upR σ.2.2 o k (q + 1))
      | false => False
    | .inl a :: .inr (.inr o) :: r, some (ci, k) => match (Nat.beq (fK o).1 (10 + ci) && (!(fkR ci k) && (!(ffin ci k) || Nat.beq ini (ci + 1)))) with
      | true => match fkB ci k with
        | true => (a = 0 ∨ a = 1) ∧ G nx l r (σ.1, upZ σ.2.1 o k a, σ.2.2)
        | false => G nx l r (σ.1, upZ σ.2.1 o k a, σ.2.2)
      | false => False
    | _, _ => False
  | .iaload => match st with
    | .inl j :: .inr (.inr o) :: r => match scr with
      | none => match fK o with
        | (0, n) => (0 ≤ j ∧ j < n) ∧ G nx l (vi (σ.2.1 o j.toNat) :: r) σ
        | _ => False
      | some (L, xs) => o = 0 ∧ 0 ≤ j ∧ j < L ∧ G nx l (vi (xs j.toNat) :: r) σ
    | _ => False
  | .laload => match st with
    | .inl j :: .inr (.inr o) :: r => match fK o with
      | (1, n) => (0 ≤ j ∧ j < n) ∧ G nx l (vl (σ.2.1 o j.toNat) :: r) σ
      | _ => False
    | _ => False
  | .baload => match st with
    | .inl j :: .inr (.inr o) :: r => match fK o with
      | (2, n) => (0 ≤ j ∧ j < n) ∧ G nx l (vi (σ.2.1 o j.toNat) :: r) σ
      | _ => False
    | _ => False
  | .aaload => match st with
    | .inl j :: .inr (.inr o) :: r => match fK o with
      | (3, n) => (0 ≤ j ∧ j < n) ∧ σ.2.2 o j.toNat ≠ 0 ∧ G nx l (vr (σ.2.2 o j.toNat) :: r) σ
      | _ => False
    | _ => False
  | .iastore => match st with
    | .inl a :: .inl j :: .inr (.inr o) :: r => match fK o with
      | (0, n) => (0 ≤ j ∧ j < n) ∧ G nx l r (σ.1, upZ σ.2.1 o j.toNat a, σ.2.2)
      | _ => False
    | _ => False
  | .lastore => match st with
    | .inr (.inl a) :: .inl j :: .inr (.inr o) :: r => match fK o with
      | (1, n) => (0 ≤ j ∧ j < n) ∧ G nx l r (σ.1, upZ σ.2.1 o j.toNat a, σ.2.2)
      | _ => False
    | _ => False
  | .bastore => match st with
    | .inl a :: .inl j :: .inr (.inr o) :: r => match fK o with
      | (2, n) => (0 ≤ j ∧ j < n) ∧ (a = 0 ∨ a = 1) ∧ G nx l r (σ.1, upZ σ.2.1 o j.toNat a, σ.2.2)
      | _ => False
    | _ => False
  | .aastore => match st with
    | .inr (.inr x) :: .inl j :: .inr (.inr o) :: r => match fK o with
      | (3, n) => (0 ≤ j ∧ j < n) ∧ (fK x).1 = 17 ∧ G nx l r (σ.1, σ.2.1, upR σ.2.2 o j.toNat x)
      | _ => False
    | _ => False
  | .arraylength => match st with
    | .inr (.inr o) :: r => match scr with
      | none => match fK o with
        | (t, n) => match Nat.ble t 3 with
          | true => G nx l (vi n :: r) σ
          | false => False
      | some (L, _) => o = 0 ∧ G nx l (vi L :: r) σ
    | _ => False
  | .newarray t => match st with
    | .inl n :: r => fK (σ.1 + 1) = (atc t, n.toNat) ∧ (atc t < 3 ∧ 0 ≤ n ∧ n ≤ 10000) ∧ σ.1 + 1 ≤ lim ∧ G nx l (vr (σ.1 + 1) :: r) (σ.1 + 1, zrZ σ.2.1 (σ.1 + 1), zrR σ.2.2 (σ.1 + 1))
    | _ => False
  | .anewarray n => match st, P.2.2.2 n with
    | .inl n :: r, some 7 => fK (σ.1 + 1) = (3, n.toNat) ∧ (0 ≤ n ∧ n ≤ 10000) ∧ σ.1 + 1 ≤ lim ∧ G nx l (vr (σ.1 + 1) :: r) (σ.1 + 1, zrZ σ.2.1 (σ.1 + 1), zrR σ.2.2 (σ.1 + 1))
    | _, _ => False
  | .new n => match P.2.2.2 n with
    | some ci => (fK (σ.1 + 1)).1 = 10 + ci ∧ σ.1 + 1 ≤ lim ∧ G nx l (vr (σ.1 + 1) :: st) (σ.1 + 1, zrZ σ.2.1 (σ.1 + 1), zrR σ.2.2 (σ.1 + 1))
    | none => False
  | .invokevirtual n => recvG (sp n).2.1 (st.take (sp n).1).reverse ∧ callG (sp n) lim (fun st' σ' => G nx l st' σ') st σ
  | .invokestatic n => callG (sp n) lim (fun st' σ' => G nx l st' σ') st σ
  | .invokespecial n => bif oi n then (match st with
      | .inr (.inr _) :: r => Nat.ble (psum r) 8 = true ∧ G nx l r σ
      | _ => False)
    else recvG (sp n).2.1 (st.take (sp n).1).reverse ∧ callG (sp n) lim (fun st' σ' => G nx l st' σ') st σ
  | .ireturn => match st with
    | [.inl a] => (match rt with
      | 0 => Q (some (vi a)) σ
      | 1 => (a = 0 ∨ a = 1) ∧ Q (some (vi a)) σ
      | _ => False)
    | _ => False
  | .lreturn => match st with
    | [.inr (.inl a)] => rt = 2 ∧ Q (some (vl a)) σ
    | _ => False
  | .areturn => match st with
    | [.inr (.inr a)] => rt = 3 ∧ Q (some (vr a)) σ
    | _ => False
  | .return_ => match st with
    | [] => rt = 4 ∧ Q none σ
    | _ => False
  | _ => False
/-- a method's code: (place, instruction, the next place, the places that it may jump to) -/
abbrev Tab : Type := List (Nat × Instr × Nat × List Nat)
def tabAt (tb : Tab) (pc : Nat) : Option (Instr × Nat × List Nat) := match tb with
  | [] => none
  | e :: t => bif Nat.beq e.1 pc then some e.2 else tabAt t pc
/-- the calls of a method: kind (0 virtual, 1 static, 2 constructor, 3 a nest mate's constructor, 4 a nest mate's static), index, what it is -/
abbrev Cl : Type := List (Nat × Nat × Sp)
def noSp : Sp := (0, 99, 0, fun _ _ => False, fun _ _ _ _ => False)
def ckAt (cl : Cl) (n : Nat) : Option (Nat × Sp) := match cl with
  | [] => none
  | q :: t => bif Nat.beq q.2.1 n then some (q.1, q.2.2) else ckAt t n
def spAt (cl : Cl) (n : Nat) : Sp := match ckAt cl n with
  | some q => q.2
  | none => noSp
/-- a method: code, pool, calls, Object's constructor, kind of return, constructor of which class (plus 1) -/
abbrev Mc : Type := Tab × Pool × Cl × (Nat → Bool) × Nat × Nat
def stepM (M : Mc) (lim : Nat) (scr : Scr) (Q : Option PV → St → Prop) (G : GT) (pc : Nat) (l : LoT) (st : List PV) (σ : St) : Prop := match tabAt M.1 pc with
  | some (i, nx, tg) => stepI M.2.1 (spAt M.2.2.1) M.2.2.2.1 M.2.2.2.2.1 M.2.2.2.2.2 lim scr Q G nx tg i l st σ
  | none => False
/-- closed under the steps read backwards, and under forgetting what locals hold -/
def Clo (M : Mc) (lim : Nat) (scr : Scr) (Q : Option PV → St → Prop) (G : GT) : Prop := (∀ pc l st σ, stepM M lim scr Q G pc l st σ → G pc l st σ) ∧ ∀ pc l l' st σ, l'.map (fun q => lk l q.1) = l'.map (fun q => some q.2) → G pc l' st σ → G pc l st σ
def elemN (ns : List Nat) (n : Nat) : Bool := match ns with
  | [] => false
  | a :: t => Nat.beq a n || elemN t n
def wp (M : Mc) (lim : Nat) (scr : Scr) (Q : Option PV → St → Prop) (G : GT) (stops : List Nat) (n : Nat) : GT := match n with
  | 0 => G
  | k + 1 => fun pc l st σ => stepM M lim scr Q (fun pc' l' st' σ' => bif elemN stops pc' then G pc' l' st' σ' else wp M lim scr Q G stops k pc' l' st' σ') pc l st σ
