/-! ===== bits of whole numbers ===== -/
theorem bv32 {a : Int} (h0 : 0 ≤ a) (h1 : a ≤ 2147483647) : (Int32.ofInt a).toBitVec.toNat = a.toNat ∧ (Int32.ofInt a).toBitVec.msb = false := by
  have ht : (Int32.ofInt a).toBitVec.toInt = a := i32_t ⟨by omega, h1⟩
  have hm : (Int32.ofInt a).toBitVec.msb = false := by
    rw [BitVec.msb_eq_toInt, ht]; simpa using h0
  refine ⟨?_, hm⟩
  rw [BitVec.toInt_eq_toNat_of_msb hm] at ht
  omega
theorem small32 {x : BitVec 32} (h : x.toNat < 2147483648) : x.toInt = (x.toNat : Int) := BitVec.toInt_eq_toNat_of_lt (by omega)
theorem and32_le {a b : Int} (h0 : 0 ≤ b) (h1 : b ≤ 2147483647) : 0 ≤ and32 a b ∧ and32 a b ≤ b := by
  obtain ⟨hb, hm⟩ := bv32 h0 h1
  have e : and32 a b = ((Int32.ofInt a).toBitVec &&& (Int32.ofInt b).toBitVec).toInt := rfl
  have hl : ((Int32.ofInt a).toBitVec &&& (Int32.ofInt b).toBitVec).toNat ≤ b.toNat := by
    rw [BitVec.toNat_and, hb]; exact Nat.and_le_right
  rw [e, small32 (by omega)]
  omega
theorem and32_le' {a b : Int} (h0 : 0 ≤ a) (h1 : a ≤ 2147483647) : 0 ≤ and32 a b ∧ and32 a b ≤ a := by
  have e : and32 a b = and32 b a := by unfold and32; rw [Int32.and_comm]
  rw [e]; exact and32_le h0 h1
theorem and32_nat {a b : Int} (h0 : 0 ≤ a) (h1 : a ≤ 2147483647) (h2 : 0 ≤ b) (h3 : b ≤ 2147483647) : and32 a b = ((a.toNat &&& b.toNat : Nat) : Int) := by
  obtain ⟨ha, -⟩ := bv32 h0 h1
  obtain ⟨hb, -⟩ := bv32 h2 h3
  have e : and32 a b = ((Int32.ofInt a).toBitVec &&& (Int32.ofInt b).toBitVec).toInt := rfl
  have hl : ((Int32.ofInt a).toBitVec &&& (Int32.ofInt b).toBitVec).toNat = a.toNat &&& b.toNat := by rw [BitVec.toNat_and, ha, hb]
  have hle : a.toNat &&& b.toNat ≤ b.toNat := Nat.and_le_right
  rw [e, small32 (by rw [hl]; omega), hl]
theorem or32_nat {a b : Int} (h0 : 0 ≤ a) (h1 : a ≤ 2147483647) (h2 : 0 ≤ b) (h3 : b ≤ 2147483647) : or32 a b = ((a.toNat ||| b.toNat : Nat) : Int) := by
  obtain ⟨ha, -⟩ := bv32 h0 h1
  obtain ⟨hb, -⟩ := bv32 h2 h3
  have e : or32 a b = ((Int32.ofInt a).toBitVec ||| (Int32.ofInt b).toBitVec).toInt := rfl
  have hl : ((Int32.ofInt a).toBitVec ||| (Int32.ofInt b).toBitVec).toNat = a.toNat ||| b.toNat := by rw [BitVec.toNat_or, ha, hb]
  have hle : a.toNat ||| b.toNat < 2 ^ 31 := Nat.or_lt_two_pow (by omega) (by omega)
  rw [e, small32 (by rw [hl]; omega), hl]
theorem xor32_nat {a b : Int} (h0 : 0 ≤ a) (h1 : a ≤ 2147483647) (h2 : 0 ≤ b) (h3 : b ≤ 2147483647) : xor32 a b = ((a.toNat ^^^ b.toNat : Nat) : Int) := by
  obtain ⟨ha, -⟩ := bv32 h0 h1
  obtain ⟨hb, -⟩ := bv32 h2 h3
  have e : xor32 a b = ((Int32.ofInt a).toBitVec ^^^ (Int32.ofInt b).toBitVec).toInt := rfl
  have hl : ((Int32.ofInt a).toBitVec ^^^ (Int32.ofInt b).toBitVec).toNat = a.toNat ^^^ b.toNat := by rw [BitVec.toNat_xor, ha, hb]
  have hle : a.toNat ^^^ b.toNat < 2 ^ 31 := Nat.xor_lt_two_pow (by omega) (by omega)
  rw [e, small32 (by rw [hl]; omega), hl]
theorem xor32_neg {a b : Int} (ha : okI a) (h2 : 0 ≤ b) (h3 : b ≤ 2147483647) : xor32 a b < 0 ↔ a < 0 := by
  obtain ⟨-, hb⟩ := bv32 h2 h3
  have e : xor32 a b = ((Int32.ofInt a).toBitVec ^^^ (Int32.ofInt b).toBitVec).toInt := rfl
  have e1 : ((Int32.ofInt a).toBitVec ^^^ (Int32.ofInt b).toBitVec).msb = (Int32.ofInt a).toBitVec.msb := by rw [BitVec.msb_xor, hb, Bool.xor_false]
  have e2 : (Int32.ofInt a).toBitVec.toInt = a := i32_t ha
  rw [BitVec.msb_eq_toInt, BitVec.msb_eq_toInt, e2] at e1
  rw [e]
  exact decide_eq_decide.mp e1
theorem xor64_neg {a b : Int} (ha : okL a) (hb : okL b) (h2 : 0 ≤ b) : xor64 a b < 0 ↔ a < 0 := by
  have hm : (Int64.ofInt b).toBitVec.msb = false := by
    rw [BitVec.msb_eq_toInt, show (Int64.ofInt b).toBitVec.toInt = b from i64_t hb]; simpa using h2
  have e : xor64 a b = ((Int64.ofInt a).toBitVec ^^^ (Int64.ofInt b).toBitVec).toInt := rfl
  have e1 : ((Int64.ofInt a).toBitVec ^^^ (Int64.ofInt b).toBitVec).msb = (Int64.ofInt a).toBitVec.msb := by rw [BitVec.msb_xor, hm, Bool.xor_false]
  have e2 : (Int64.ofInt a).toBitVec.toInt = a := i64_t ha
  rw [BitVec.msb_eq_toInt, BitVec.msb_eq_toInt, e2] at e1
  rw [e]
  exact decide_eq_decide.mp e1
theorem sh31 {k : Int} (h0 : 0 ≤ k) (h1 : k < 32) : ((Int32.ofInt k) &&& 31).toBitVec.toNat = k.toNat ∧ Int32.ofInt k &&& 31 = Int32.ofInt k := by
  have e : Int32.ofInt k &&& 31 = Int32.ofInt k := by
    have h : ∀ n : Nat, n < 32 → Int32.ofInt n &&& 31 = Int32.ofInt n := by decide +kernel
    have h2 := h k.toNat (by omega)
    rwa [Int.toNat_of_nonneg h0] at h2
  rw [e]
  exact ⟨(bv32 h0 (by omega)).1, rfl⟩
theorem shr32_div {a k : Int} (ha : okI a) (h0 : 0 ≤ k) (h1 : k < 32) : shr32 a k = a / 2 ^ k.toNat := by
  obtain ⟨e, e2⟩ := sh31 h0 h1
  unfold shr32
  rw [e2]
  have hs : (Int32.ofInt a >>> Int32.ofInt k).toInt = (Int32.ofInt a).toInt >>> k.toNat := by
    have e3 : (Int32.ofInt a >>> Int32.ofInt k).toInt = ((Int32.ofInt a).toBitVec.sshiftRight' ((Int32.ofInt k).toBitVec.smod 32)).toInt := rfl
    have h : ∀ n : Nat, n < 32 → ((Int32.ofInt n).toBitVec.smod 32).toNat = n := by decide +kernel
    have h2 := h k.toNat (by omega)
    rw [Int.toNat_of_nonneg h0] at h2
    rw [e3, BitVec.toInt_sshiftRight', h2]
    rfl
  rw [hs, i32_t ha, Int.shiftRight_eq_div_pow]
  norm_cast
theorem shl32_one {k : Int} (h0 : 0 ≤ k) (h1 : k < 31) : shl32 1 k = 2 ^ k.toNat := by
  have h : ∀ n : Nat, n < 31 → shl32 1 n = 2 ^ n := by decide +kernel
  have h2 := h k.toNat (by omega)
  rwa [Int.toNat_of_nonneg h0] at h2
theorem cmp3_c (c : ClassFile.Cond) (a b : Int) : cmpI c (cmp3 a b) 0 ↔ cmpI c a b := by
  unfold cmp3
  cases c <;> simp only [cmpI] <;> (split <;> (try split)) <;> omega
theorem ushr32_div {a k : Int} (h2 : 0 ≤ a) (h3 : a ≤ 2147483647) (h0 : 0 ≤ k) (h1 : k < 32) : ushr32 a k = a / 2 ^ k.toNat := by
  have ha := (bv32 h2 h3).1
  have hk : ((Int32.ofInt k).toUInt32 &&& Int32.toUInt32 31).toNat % 32 = k.toNat := by
    have h : ∀ n : Nat, n < 32 → ((Int32.ofInt n).toUInt32 &&& Int32.toUInt32 31).toNat % 32 = n := by decide +kernel
    have h4 := h k.toNat (by omega)
    rwa [Int.toNat_of_nonneg h0] at h4
  have e : ushr32 a k = ((Int32.ofInt a).toUInt32 >>> ((Int32.ofInt k).toUInt32 &&& Int32.toUInt32 31)).toBitVec.toInt := rfl
  have hn : ((Int32.ofInt a).toUInt32 >>> ((Int32.ofInt k).toUInt32 &&& Int32.toUInt32 31)).toBitVec.toNat = a.toNat / 2 ^ k.toNat := by
    show ((Int32.ofInt a).toUInt32 >>> ((Int32.ofInt k).toUInt32 &&& Int32.toUInt32 31)).toNat = _
    rw [UInt32.toNat_shiftRight, hk, Nat.shiftRight_eq_div_pow]
    congr 1
  have hlt : a.toNat / 2 ^ k.toNat ≤ a.toNat := Nat.div_le_self _ _
  rw [e, small32 (by rw [hn]; omega), hn]
  have : a = (a.toNat : Int) := by omega
  conv => rhs; rw [this]
  norm_cast
