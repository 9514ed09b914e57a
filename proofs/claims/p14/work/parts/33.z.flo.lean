/-! ===== lN n to 2^64: shifts, and, or, masks, one bit ===== -/
theorem wb_tb (n : Nat) : (lN n).toBitVec = BitVec.ofNat 64 n := rfl
theorem wb_inj {a b : Int64} (h : a.toBitVec = b.toBitVec) : a = b := Int64.toBitVec_inj.mp h
theorem wb_tn {n : Nat} (h : n < 2 ^ 64) : (lN n).toBitVec.toNat = n := by rw [wb_tb, BitVec.toNat_ofNat, Nat.mod_eq_of_lt h]
theorem wb_of (x : Int64) : ∃ n, n < 2 ^ 64 ∧ x = lN n := ⟨x.toBitVec.toNat, x.toBitVec.isLt, wb_inj (by rw [wb_tb]; simp)⟩
theorem wb_of32 (x : Int32) : ∃ n, n < 2 ^ 32 ∧ x = nI n := ⟨x.toBitVec.toNat, x.toBitVec.isLt, Int32.toBitVec_inj.mp (by show _ = BitVec.ofNat 32 _; simp)⟩
theorem wb_c : ∀ k, k < 64 → ((nI k).toInt64 &&& 63) = lN k := by decide +kernel
theorem wb_cu : ∀ k, k < 64 → ((nI k).toInt64.toUInt64 &&& Int64.toUInt64 63) = UInt64.ofNat k := by decide +kernel
theorem wb_sm : ∀ k, k < 64 → (BitVec.ofNat 64 k).smod 64 = BitVec.ofNat 64 k := by decide +kernel
theorem wb_pw {a b : Nat} (h : a ≤ b) : 2 ^ b = 2 ^ a * 2 ^ (b - a) := by rw [← Nat.pow_add]; congr 1; omega
theorem wb_lt2 {a b : Nat} (h : a < b) : 2 ^ a < 2 ^ b := Nat.pow_lt_pow_right (by decide) h
theorem wb_mod (n : Nat) : lN n = lN (n % 2 ^ 64) := wb_inj (by rw [wb_tb, wb_tb]; apply BitVec.eq_of_toNat_eq; rw [BitVec.toNat_ofNat, BitVec.toNat_ofNat, Nat.mod_mod])
theorem wb_shr {n k : Nat} (hn : n < 2 ^ 64) (hk : k < 64) : ((lN n).toUInt64 >>> ((nI k).toInt64.toUInt64 &&& Int64.toUInt64 63)).toInt64 = lN (n / 2 ^ k) := by
  rw [wb_cu k hk]
  apply wb_inj
  apply BitVec.eq_of_toNat_eq
  show ((lN n).toUInt64 >>> UInt64.ofNat k).toNat = (BitVec.ofNat 64 _).toNat
  have h1 : (UInt64.ofNat k).toNat = k := by
    show (BitVec.ofNat 64 k).toNat = k
    rw [BitVec.toNat_ofNat, Nat.mod_eq_of_lt (by omega)]
  have h2 : (lN n).toUInt64.toNat = n := wb_tn hn
  rw [UInt64.toNat_shiftRight, h1, h2, Nat.mod_eq_of_lt hk, Nat.shiftRight_eq_div_pow, BitVec.toNat_ofNat, Nat.mod_eq_of_lt (Nat.lt_of_le_of_lt (Nat.div_le_self _ _) hn)]
theorem wb_shl (n : Nat) {k : Nat} (hk : k < 64) : lN n <<< ((nI k).toInt64 &&& 63) = lN (n * 2 ^ k) := by
  rw [wb_c k hk]
  apply wb_inj
  rw [Int64.toBitVec_shiftLeft, wb_tb, wb_tb, wb_tb, wb_sm k hk]
  apply BitVec.eq_of_toNat_eq
  rw [BitVec.shiftLeft_eq', BitVec.toNat_shiftLeft, BitVec.toNat_ofNat, BitVec.toNat_ofNat, BitVec.toNat_ofNat, Nat.mod_eq_of_lt (show k < 2 ^ 64 by omega), Nat.shiftLeft_eq, Nat.mul_mod, Nat.mod_mod, ← Nat.mul_mod]
theorem wb_and {a b : Nat} (ha : a < 2 ^ 64) (hb : b < 2 ^ 64) : lN a &&& lN b = lN (a &&& b) := by
  apply wb_inj
  rw [Int64.toBitVec_and, wb_tb, wb_tb, wb_tb]
  apply BitVec.eq_of_toNat_eq
  rw [BitVec.toNat_and, BitVec.toNat_ofNat, BitVec.toNat_ofNat, BitVec.toNat_ofNat, Nat.mod_eq_of_lt ha, Nat.mod_eq_of_lt hb, Nat.mod_eq_of_lt (Nat.and_lt_two_pow _ hb)]
theorem wb_or {a b : Nat} (ha : a < 2 ^ 64) (hb : b < 2 ^ 64) : lN a ||| lN b = lN (a ||| b) := by
  apply wb_inj
  rw [Int64.toBitVec_or, wb_tb, wb_tb, wb_tb]
  apply BitVec.eq_of_toNat_eq
  rw [BitVec.toNat_or, BitVec.toNat_ofNat, BitVec.toNat_ofNat, BitVec.toNat_ofNat, Nat.mod_eq_of_lt ha, Nat.mod_eq_of_lt hb, Nat.mod_eq_of_lt (Nat.or_lt_two_pow ha hb)]
theorem wb_mask {n k : Nat} (hn : n < 2 ^ 64) (hk : k < 64) : lN n &&& lN (2 ^ k - 1) = lN (n % 2 ^ k) := by
  rw [wb_and hn (by have := wb_lt2 hk; omega), Nat.and_two_pow_sub_one_eq_mod]
theorem wb_a1 {n : Nat} (hn : n < 2 ^ 64) : lN n &&& 1 = lN (n % 2) := wb_mask (k := 1) hn (by decide)
theorem wb_bit {n k : Nat} (hn : n < 2 ^ 64) (hk : k < 64) : ((lN n).toUInt64 >>> ((nI k).toInt64.toUInt64 &&& Int64.toUInt64 63)).toInt64 &&& 1 = lN (n / 2 ^ k % 2) := by
  rw [wb_shr hn hk, wb_a1 (Nat.lt_of_le_of_lt (Nat.div_le_self _ _) hn)]
/-! ===== lN to 2^62 under >> and >>> ===== -/
theorem pf_lI {a : Nat} (h : a < 2 ^ 63) : (lN a).toInt = (a : Int) := lg_ofNat_toInt h
theorem pf_shr {a d : Nat} {D : Int64} (hD : (D.toBitVec.smod 64).toNat = d) (h : a < 2 ^ 62) : lN a >>> D = lN (a / 2 ^ d) := by
  have hd : a / 2 ^ d ≤ a := Nat.div_le_self _ _
  apply Int64.toInt_inj.mp
  have e : (lN a >>> D).toInt = (lN a).toInt >>> d := by
    rw [← hD]
    exact BitVec.toInt_sshiftRight ..
  rw [e, Int.shiftRight_eq_div_pow, pf_lI (by omega), pf_lI (by omega)]
  rfl
theorem pf_ushr {a d : Nat} {D : UInt64} (hD : D.toNat % 64 = d) (h : a < 2 ^ 62) : ((lN a).toUInt64 >>> D).toInt64 = lN (a / 2 ^ d) := by
  have hd : a / 2 ^ d ≤ a := Nat.div_le_self _ _
  have e : (lN a).toUInt64 >>> D = UInt64.ofNat (a / 2 ^ d) := UInt64.toNat_inj.mp (by
    rw [UInt64.toNat_shiftRight, hD, Nat.shiftRight_eq_div_pow, UInt64.toNat_ofNat']
    show (UInt64.ofNat a).toNat / 2 ^ d = _
    rw [UInt64.toNat_ofNat', Nat.mod_eq_of_lt (by omega), Nat.mod_eq_of_lt (by omega)])
  rw [e]
  rfl
theorem pf_andw (x : Int64) : ∃ m, m < 2 ^ 32 ∧ x &&& 4294967295 = lN m := ⟨x.toBitVec.toNat % 2 ^ 32, Nat.mod_lt _ (by decide), Int64.toBitVec_inj.mp (BitVec.eq_of_toNat_eq (by
  show (x.toBitVec &&& 4294967295#64).toNat = (BitVec.ofNat 64 (x.toBitVec.toNat % 2 ^ 32)).toNat
  rw [BitVec.toNat_and, show (4294967295#64).toNat = 2 ^ 32 - 1 from by decide, Nat.and_two_pow_sub_one_eq_mod, BitVec.toNat_ofNat]
  omega))⟩
theorem fb_andL (a b : Nat) : lN a &&& lN b = lN (a &&& b) := by
  apply Int64.toBitVec_inj.1
  show BitVec.ofNat 64 a &&& BitVec.ofNat 64 b = BitVec.ofNat 64 (a &&& b)
  apply BitVec.eq_of_getLsbD_eq
  intro i hi
  simp [hi]
theorem fb_orL (a b : Nat) : lN a ||| lN b = lN (a ||| b) := by
  apply Int64.toBitVec_inj.1
  show BitVec.ofNat 64 a ||| BitVec.ofNat 64 b = BitVec.ofNat 64 (a ||| b)
  apply BitVec.eq_of_getLsbD_eq
  intro i hi
  simp [hi]
theorem fb_xorL (a b : Nat) : lN a ^^^ lN b = lN (a ^^^ b) := by
  apply Int64.toBitVec_inj.1
  show BitVec.ofNat 64 a ^^^ BitVec.ofNat 64 b = BitVec.ofNat 64 (a ^^^ b)
  apply BitVec.eq_of_getLsbD_eq
  intro i hi
  simp [hi]
theorem fb_xorI (a b : Nat) : nI a ^^^ nI b = nI (a ^^^ b) := by
  apply Int32.toBitVec_inj.1
  show BitVec.ofNat 32 a ^^^ BitVec.ofNat 32 b = BitVec.ofNat 32 (a ^^^ b)
  apply BitVec.eq_of_getLsbD_eq
  intro i hi
  simp [hi]
theorem fb_maskL (n k : Nat) : lN n &&& lN (2 ^ k - 1) = lN (n % 2 ^ k) := by rw [fb_andL, Nat.and_two_pow_sub_one_eq_mod]
theorem fb_or_sumL {a k : Nat} (b : Nat) (h : a < 2 ^ k) : lN (2 ^ k * b) ||| lN a = lN (2 ^ k * b + a) := by rw [fb_orL, Nat.two_pow_add_eq_or_of_lt h]
theorem fb_rng (x : Int32) : -2147483648 ≤ x.toInt ∧ x.toInt < 2147483648 := by
  have h1 := Int32.le_toInt x
  have h2 := Int32.toInt_lt x
  omega
theorem fb_bmod {z : Int} (h1 : -2147483648 ≤ z) (h2 : z < 2147483648) : z.bmod (2 ^ 32) = z := by
  rw [Int.bmod_eq_of_le (by omega) (by omega)]
theorem fb_addI {x y : Int32} (h1 : -2147483648 ≤ x.toInt + y.toInt) (h2 : x.toInt + y.toInt < 2147483648) : (x + y).toInt = x.toInt + y.toInt := by
  rw [Int32.toInt_add, fb_bmod h1 h2]
theorem fb_subI {x y : Int32} (h1 : -2147483648 ≤ x.toInt - y.toInt) (h2 : x.toInt - y.toInt < 2147483648) : (x - y).toInt = x.toInt - y.toInt := by
  rw [Int32.toInt_sub, fb_bmod h1 h2]
theorem fb_mulI {x y : Int32} (h1 : -2147483648 ≤ x.toInt * y.toInt) (h2 : x.toInt * y.toInt < 2147483648) : (x * y).toInt = x.toInt * y.toInt := by
  rw [Int32.toInt_mul, fb_bmod h1 h2]
theorem fb_negI {x : Int32} (h : x.toInt ≠ -2147483648) : (-x).toInt = -x.toInt := by
  have := fb_rng x
  rw [Int32.toInt_neg, fb_bmod (by omega) (by omega)]
theorem fb_ofI {z : Int} (h1 : -2147483648 ≤ z) (h2 : z < 2147483648) : (Int32.ofInt z).toInt = z := by
  rw [Int32.toInt_ofInt, fb_bmod h1 h2]
theorem fb_asI (x : Int32) : Int32.ofInt x.toInt = x := Int32.ofInt_toInt x
theorem fa_and (a b : Nat) : nI a &&& nI b = nI (a &&& b) := by
  apply Int32.toBitVec_inj.1
  show BitVec.ofNat 32 a &&& BitVec.ofNat 32 b = BitVec.ofNat 32 (a &&& b)
  apply BitVec.eq_of_getLsbD_eq
  intro i hi
  simp [hi]
theorem fa_or (a b : Nat) : nI a ||| nI b = nI (a ||| b) := by
  apply Int32.toBitVec_inj.1
  show BitVec.ofNat 32 a ||| BitVec.ofNat 32 b = BitVec.ofNat 32 (a ||| b)
  apply BitVec.eq_of_getLsbD_eq
  intro i hi
  simp [hi]
/-- a remainder by a power of two, as a mask -/
theorem fa_mask (n k : Nat) : nI n &&& nI (2 ^ k - 1) = nI (n % 2 ^ k) := by rw [fa_and, Nat.and_two_pow_sub_one_eq_mod]
/-- 'or' of a high part and a low one that don't meet is their sum -/
theorem fa_or_sum {a k : Nat} (b : Nat) (h : a < 2 ^ k) : nI (2 ^ k * b) ||| nI a = nI (2 ^ k * b + a) := by rw [fa_or, Nat.two_pow_add_eq_or_of_lt h]
/-! facts of numbers -/
theorem nu_inj {x y : Int32} (h : x.toBitVec.toNat = y.toBitVec.toNat) : x = y := Int32.toBitVec_inj.1 (BitVec.eq_of_toNat_eq h)
theorem nu_of (x : Int32) : x = nI x.toBitVec.toNat := nu_inj (by rw [pk_tn x.toBitVec.isLt])
theorem mk_lo (b : Int32) : b.toInt64 &&& 4294967295 = lN b.toBitVec.toNat := by
  apply wb_inj
  show b.toBitVec.signExtend 64 &&& 4294967295#64 = BitVec.ofNat 64 b.toBitVec.toNat
  apply BitVec.eq_of_toNat_eq
  have hb := b.toBitVec.isLt
  have e : (4294967295#64).toNat = 2 ^ 32 - 1 := by decide
  have e2 : (BitVec.ofNat 64 b.toBitVec.toNat).toNat = b.toBitVec.toNat := by rw [BitVec.toNat_ofNat]; omega
  rw [BitVec.toNat_and, e, e2, Nat.and_two_pow_sub_one_eq_mod, BitVec.toNat_signExtend, BitVec.toNat_setWidth, Nat.mod_eq_of_lt (show b.toBitVec.toNat < 2 ^ 64 by omega)]
  split <;> omega
theorem x_make1 (k : Int32) : x_make 1 k = lN (4294967296 + k.toBitVec.toNat) := by
  unfold x_make
  rw [mk_lo, show ((1 : Int32).toInt64 <<< ((32 : Int32).toInt64 &&& 63)) = lN (2 ^ 32 * 1) by decide, fb_or_sumL 1 k.toBitVec.isLt]
theorem x_make0 (k : Int32) : x_make 0 k = lN k.toBitVec.toNat := by
  unfold x_make
  rw [mk_lo, show ((0 : Int32).toInt64 <<< ((32 : Int32).toInt64 &&& 63)) = lN (2 ^ 32 * 0) by decide, fb_or_sumL 0 k.toBitVec.isLt, Nat.mul_zero, Nat.zero_add]
theorem x_kind_make (k : Int32) : ((x_make 1 k).toUInt64 >>> ((32 : Int32).toInt64.toUInt64 &&& Int64.toUInt64 63)).toInt64.toInt32 = 1 := by
  have hk := k.toBitVec.isLt
  rw [x_make1, show ((32 : Int32).toInt64.toUInt64 &&& Int64.toUInt64 63) = ((nI 32).toInt64.toUInt64 &&& Int64.toUInt64 63) from rfl, wb_shr (by omega) (by decide), lN_i, show (4294967296 + k.toBitVec.toNat) / 2 ^ 32 = 1 by omega]
  rfl
theorem x_bits_make (k : Int32) : (x_make 1 k).toInt32 = k := by
  have hk := k.toBitVec.isLt
  rw [x_make1, lN_i]
  apply nu_inj
  show (BitVec.ofNat 32 _).toNat = _
  rw [BitVec.toNat_ofNat]
  omega
theorem x_bits_make0 (k : Int32) : (x_make 0 k).toInt32 = k := by
  rw [x_make0, lN_i, ← nu_of]
/-! the fields of a float -/
abbrev fT (n : Nat) : Nat := n % 8388608
abbrev fE (n : Nat) : Nat := n / 8388608 % 256
def fc (n : Nat) : Nat := if fE n = 0 then fT n else fT n + 8388608
def fq (n : Nat) : Int := if fE n = 0 then -149 else (fE n : Int) - 150
abbrev nn (x : Int32) : Nat := x.toBitVec.toNat
theorem andS31 (n : Nat) : n &&& 2147483647 = n % 2147483648 := Nat.and_two_pow_sub_one_eq_mod n 31
theorem andS23 (n : Nat) : n &&& 8388607 = n % 8388608 := Nat.and_two_pow_sub_one_eq_mod n 23
theorem andE (n : Nat) : n &&& 2139095040 = fE n * 8388608 := by
  have e : (2139095040 : Nat) = (2 ^ 8 - 1) <<< 23 := by decide
  have e2 : fE n * 8388608 = ((n >>> 23) % 2 ^ 8) <<< 23 := by
    rw [Nat.shiftLeft_eq, Nat.shiftRight_eq_div_pow]
  rw [e, e2]
  apply Nat.eq_of_testBit_eq
  intro i
  rw [Nat.testBit_and, Nat.testBit_shiftLeft, Nat.testBit_shiftLeft, Nat.testBit_mod_two_pow, Nat.testBit_two_pow_sub_one, Nat.testBit_shiftRight]
  by_cases h : 23 ≤ i
  · rw [show 23 + (i - 23) = i by omega]
    simp [h, Bool.and_comm]
  · simp [h]
theorem nn_and (x y : Int32) : nn (x &&& y) = nn x &&& nn y := by
  show (x &&& y).toBitVec.toNat = _
  rw [Int32.toBitVec_and, BitVec.toNat_and]
theorem nn_or (x y : Int32) : nn (x ||| y) = nn x ||| nn y := by
  show (x ||| y).toBitVec.toNat = _
  rw [Int32.toBitVec_or, BitVec.toNat_or]
theorem nn_xor (x y : Int32) : nn (x ^^^ y) = nn x ^^^ nn y := by
  show (x ^^^ y).toBitVec.toNat = _
  rw [Int32.toBitVec_xor, BitVec.toNat_xor]
theorem nn_lt (x : Int32) : nn x < 4294967296 := x.toBitVec.isLt
theorem and_size (x : Int32) : x &&& 2147483647 = nI (nn x % 2147483648) := by
  have h := nn_lt x
  apply nu_inj
  rw [pk_tn (by omega), ← andS31]
  exact nn_and x 2147483647
theorem and_inf (x : Int32) : x &&& 2139095040 = nI (fE (nn x) * 8388608) := by
  have h := nn_lt x
  have h2 : fE (nn x) < 256 := Nat.mod_lt _ (by decide)
  apply nu_inj
  rw [pk_tn (by omega), ← andE]
  exact nn_and x 2139095040
theorem and_tail (x : Int32) : x &&& 8388607 = nI (fT (nn x)) := by
  have h := nn_lt x
  have h2 : fT (nn x) < 8388608 := Nat.mod_lt _ (by decide)
  apply nu_inj
  rw [pk_tn (by omega)]
  show _ = nn x % 8388608
  rw [← andS23]
  exact nn_and x 8388607
theorem ushr31 (x : Int32) : (x.toUInt32 >>> ((31 : Int32).toUInt32 &&& Int32.toUInt32 31)).toInt32 = nI (nn x / 2147483648) := by
  have h := nn_lt x
  apply nu_inj
  rw [pk_tn (by omega)]
  exact pk_ushr x 31 31 (by decide)

/-! the format -/
abbrev B : Jvm.FP.Core.Fmt := Jvm.FP.Core.b32
theorem b_tails : Jvm.FP.Core.Fmt.tails B = 8388608 := by decide
theorem b_exps : Jvm.FP.Core.Fmt.exps B = 256 := by decide
theorem b_qmin : Jvm.FP.Core.Fmt.qmin B = -149 := by decide
theorem b_qmax : Jvm.FP.Core.Fmt.qmax B = 104 := by decide
theorem b_p : (2 : Nat) ^ Jvm.FP.Core.Fmt.p B = 16777216 := by decide
theorem b_p24 : Jvm.FP.Core.Fmt.p B = 24 := by decide
abbrev fS (n : Nat) : Bool := n / 8388608 / 256 % 2 == 1
theorem dec_eq (n : Nat) : Jvm.FP.Core.decode B n = if fE n = 255 then (if fT n = 0 then .inf (fS n) else .nan) else .fin (fS n) (fc n) (fq n) := by
  unfold Jvm.FP.Core.decode Jvm.FP.Core.fieldE Jvm.FP.Core.fieldT Jvm.FP.Core.fieldS
  rw [b_tails, b_exps, b_qmin]
  unfold fc fq
  by_cases h : fE n = 255
  · rw [if_pos h, if_pos h]
  · rw [if_neg h, if_neg h]
    by_cases h0 : fE n = 0
    · rw [if_pos h0, if_pos h0, if_pos h0]
    · rw [if_neg h0, if_neg h0, if_neg h0, Nat.add_comm 8388608]
      congr 1
      show -149 + (((n / 8388608 % 256 : Nat) : Int) - 1) = ((n / 8388608 % 256 : Nat) : Int) - 150
      omega
theorem asm_eq (s : Bool) (e t : Nat) : Jvm.FP.Core.assemble B s e t = (s.toNat * 256 + e) * 8388608 + t := by
  unfold Jvm.FP.Core.assemble
  rw [b_tails, b_exps]
theorem enc_inf (s : Bool) : Jvm.FP.Core.encode B (.inf s) = s.toNat * 2147483648 + 2139095040 := by
  show Jvm.FP.Core.assemble B s _ 0 = _
  rw [asm_eq, b_exps]
  omega
theorem enc_fin (s : Bool) (c : Nat) (q : Int) : Jvm.FP.Core.encode B (.fin s c q) = if c < 8388608 then s.toNat * 2147483648 + c else s.toNat * 2147483648 + ((q + 149).toNat + 1) * 8388608 + (c - 8388608) := by
  show (if c < Jvm.FP.Core.Fmt.tails B then _ else _) = _
  rw [b_tails, b_qmin, asm_eq, asm_eq]
  split
  · omega
  · have : q - -149 = q + 149 := by omega
    rw [this]
    omega
theorem settle_eq (s : Bool) (c : Nat) (q : Int) : Jvm.FP.Core.settle B s c q = if c < 16777216 then (if q ≤ 104 then .fin s c q else .inf s) else (if q + 1 ≤ 104 then .fin s 8388608 (q + 1) else .inf s) := by
  unfold Jvm.FP.Core.settle Jvm.FP.Core.bound
  rw [b_p, b_tails, b_qmax]
theorem enc_settle (s : Bool) (c : Nat) (q : Int) : Jvm.FP.Core.encode B (Jvm.FP.Core.settle B s c q) % 2147483648 ≤ 2139095040 ∧ Jvm.FP.Core.encode B (Jvm.FP.Core.settle B s c q) < 4294967296 := by
  have hs : s.toNat ≤ 1 := by cases s <;> decide
  rw [settle_eq]
  split
  · split
    · rw [enc_fin]
      split <;> omega
    · rw [enc_inf]; omega
  · split
    · rw [enc_fin]
      split <;> omega
    · rw [enc_inf]; omega
theorem enc_round (s : Bool) (c d : Nat) (q : Int) : Jvm.FP.Core.encode B (Jvm.FP.Core.roundRatio B s c d q) % 2147483648 ≤ 2139095040 ∧ Jvm.FP.Core.encode B (Jvm.FP.Core.roundRatio B s c d q) < 4294967296 := by
  have hs : s.toNat ≤ 1 := by cases s <;> decide
  unfold Jvm.FP.Core.roundRatio
  split
  · rw [enc_fin]; split <;> omega
  · exact enc_settle _ _ _
/-- no NaN: what any finite or infinite answer is -/
theorem nq_of {e : Nat} (h : e % 2147483648 ≤ 2139095040) (h2 : e < 4294967296) : vf_n32 (UInt32.ofNat e) := by
  unfold vf_n32
  rw [UInt32.le_iff_toNat_le, UInt32.toNat_and]
  have e1 : (UInt32.ofNat e).toNat = e := by
    show e % 2 ^ 32 = e
    omega
  have e2 : (0x7fffffff : UInt32).toNat = 2147483647 := by decide
  have e3 : (0x7f800000 : UInt32).toNat = 2139095040 := by decide
  rw [e1, e2, e3, andS31]
  exact h

theorem enc_dat {D : Jvm.FP.Core.Datum} (h : D ≠ .nan) : Jvm.FP.Core.encode B (Jvm.FP.Core.round B D) % 2147483648 ≤ 2139095040 ∧ Jvm.FP.Core.encode B (Jvm.FP.Core.round B D) < 4294967296 := by
  cases D with
  | nan => exact absurd rfl h
  | inf s =>
    have hs : s.toNat ≤ 1 := by cases s <;> decide
    show Jvm.FP.Core.encode B (.inf s) % _ ≤ _ ∧ Jvm.FP.Core.encode B (.inf s) < _
    rw [enc_inf]; omega
  | fin s c q => exact enc_round s c 1 q
theorem size_split (n : Nat) : n % 2147483648 = fE n * 8388608 + fT n := by
  show n % 2147483648 = n / 8388608 % 256 * 8388608 + n % 8388608
  omega
theorem fT_lt (n : Nat) : fT n < 8388608 := Nat.mod_lt _ (by decide)
theorem fE_lt (n : Nat) : fE n < 256 := Nat.mod_lt _ (by decide)
theorem dec_inf {n : Nat} (h : n % 2147483648 = 2139095040) : Jvm.FP.Core.decode B n = .inf (fS n) := by
  have h1 := size_split n; have h2 := fT_lt n; have h3 := fE_lt n
  rw [dec_eq, if_pos (show fE n = 255 by omega), if_pos (show fT n = 0 by omega)]
theorem dec_fin {n : Nat} (h : n % 2147483648 < 2139095040) : Jvm.FP.Core.decode B n = .fin (fS n) (fc n) (fq n) := by
  have h1 := size_split n; have h2 := fT_lt n; have h3 := fE_lt n
  rw [dec_eq, if_neg (show ¬ fE n = 255 by omega)]
theorem fc_zero (n : Nat) : fc n = 0 ↔ n % 2147483648 = 0 := by
  have h1 := size_split n; have h2 := fT_lt n; have h3 := fE_lt n
  unfold fc
  split <;> omega
theorem fS_eq {n : Nat} (h : n < 4294967296) : fS n = decide (2147483648 ≤ n) := by
  show (n / 8388608 / 256 % 2 == 1) = _
  by_cases h1 : 2147483648 ≤ n
  · rw [decide_eq_true h1, beq_iff_eq]; omega
  · rw [decide_eq_false h1]
    have h2 : n / 8388608 / 256 % 2 = 0 := by omega
    rw [h2]; rfl
theorem fS_same {m n : Nat} (hm : m < 4294967296) (hn : n < 4294967296) (h : m % 2147483648 = n % 2147483648) : fS m = fS n ↔ m = n := by
  rw [fS_eq hm, fS_eq hn]
  constructor
  · intro e
    have e2 : (2147483648 ≤ m) ↔ (2147483648 ≤ n) := by
      rw [← decide_eq_true_iff (p := 2147483648 ≤ m), e, decide_eq_true_iff]
    omega
  · intro e; rw [e]
/-! no NaN of the four -/
theorem n32_add {m n : Nat} (hm : m < 4294967296) (hn : n < 4294967296) (h1 : m % 2147483648 ≤ 2139095040) (h2 : n % 2147483648 ≤ 2139095040) (h : m % 2147483648 = 2139095040 → n % 2147483648 = 2139095040 → m = n) : Jvm.FP.Core.exactSum (Jvm.FP.Core.decode B m) (Jvm.FP.Core.decode B n) ≠ .nan := by
  rcases Nat.lt_or_ge (m % 2147483648) 2139095040 with a | a <;> rcases Nat.lt_or_ge (n % 2147483648) 2139095040 with b | b
  · rw [dec_fin a, dec_fin b]; intro e; cases e
  · rw [dec_fin a, dec_inf (by omega)]; intro e; cases e
  · rw [dec_inf (by omega), dec_fin b]; intro e; cases e
  · rw [dec_inf (by omega), dec_inf (by omega)]
    have hs : fS m = fS n := (fS_same hm hn (by omega)).mpr (h (by omega) (by omega))
    show (if fS m = fS n then _ else _) ≠ _
    rw [if_pos hs]; intro e; cases e
theorem n32_sub {m n : Nat} (hm : m < 4294967296) (hn : n < 4294967296) (h1 : m % 2147483648 ≤ 2139095040) (h2 : n % 2147483648 ≤ 2139095040) (h : m % 2147483648 = 2139095040 → n % 2147483648 = 2139095040 → m ≠ n) : Jvm.FP.Core.exactSum (Jvm.FP.Core.decode B m) (Jvm.FP.Core.negate (Jvm.FP.Core.decode B n)) ≠ .nan := by
  rcases Nat.lt_or_ge (m % 2147483648) 2139095040 with a | a <;> rcases Nat.lt_or_ge (n % 2147483648) 2139095040 with b | b
  · rw [dec_fin a, dec_fin b]; intro e; cases e
  · rw [dec_fin a, dec_inf (by omega)]; intro e; cases e
  · rw [dec_inf (by omega), dec_fin b]; intro e; cases e
  · rw [dec_inf (by omega), dec_inf (by omega)]
    have hs : ¬ fS m = fS n := fun z => h (by omega) (by omega) ((fS_same hm hn (by omega)).mp z)
    show (if fS m = !fS n then _ else _) ≠ _
    rw [if_pos (by cases hx : fS m <;> cases hy : fS n <;> simp_all)]; intro e; cases e
theorem n32_mul {m n : Nat} (h1 : m % 2147483648 ≤ 2139095040) (h2 : n % 2147483648 ≤ 2139095040) (ha : m % 2147483648 = 2139095040 → n % 2147483648 ≠ 0) (hb : n % 2147483648 = 2139095040 → m % 2147483648 ≠ 0) : Jvm.FP.Core.exactProduct (Jvm.FP.Core.decode B m) (Jvm.FP.Core.decode B n) ≠ .nan := by
  rcases Nat.lt_or_ge (m % 2147483648) 2139095040 with a | a <;> rcases Nat.lt_or_ge (n % 2147483648) 2139095040 with b | b
  · rw [dec_fin a, dec_fin b]; intro e; cases e
  · rw [dec_fin a, dec_inf (by omega)]
    show (if fc m = 0 then _ else _) ≠ _
    rw [if_neg (fun z => hb (by omega) ((fc_zero m).mp z))]; intro e; cases e
  · rw [dec_inf (by omega), dec_fin b]
    show (if fc n = 0 then _ else _) ≠ _
    rw [if_neg (fun z => ha (by omega) ((fc_zero n).mp z))]; intro e; cases e
  · rw [dec_inf (by omega), dec_inf (by omega)]; intro e; cases e
theorem n32_div {m n : Nat} (h1 : m % 2147483648 ≤ 2139095040) (h2 : n % 2147483648 ≤ 2139095040) (ha : ¬ (m % 2147483648 = 2139095040 ∧ n % 2147483648 = 2139095040)) (hb : ¬ (m % 2147483648 = 0 ∧ n % 2147483648 = 0)) : Jvm.FP.Core.encode B (Jvm.FP.Core.quotient B (Jvm.FP.Core.decode B m) (Jvm.FP.Core.decode B n)) % 2147483648 ≤ 2139095040 ∧ Jvm.FP.Core.encode B (Jvm.FP.Core.quotient B (Jvm.FP.Core.decode B m) (Jvm.FP.Core.decode B n)) < 4294967296 := by
  have hi : ∀ s : Bool, Jvm.FP.Core.encode B (.inf s) % 2147483648 ≤ 2139095040 ∧ Jvm.FP.Core.encode B (.inf s) < 4294967296 := by
    intro s
    have hs : s.toNat ≤ 1 := by cases s <;> decide
    rw [enc_inf]; omega
  have hz : ∀ (s : Bool) (q : Int), Jvm.FP.Core.encode B (.fin s 0 q) % 2147483648 ≤ 2139095040 ∧ Jvm.FP.Core.encode B (.fin s 0 q) < 4294967296 := by
    intro s q
    have hs : s.toNat ≤ 1 := by cases s <;> decide
    rw [enc_fin, if_pos (by decide)]; omega
  rcases Nat.lt_or_ge (m % 2147483648) 2139095040 with a | a <;> rcases Nat.lt_or_ge (n % 2147483648) 2139095040 with b | b
  · rw [dec_fin a, dec_fin b]
    show Jvm.FP.Core.encode B (if fc n = 0 then (if fc m = 0 then _ else _) else _) % _ ≤ _ ∧ Jvm.FP.Core.encode B (if fc n = 0 then (if fc m = 0 then _ else _) else _) < _
    by_cases hn : fc n = 0
    · rw [if_pos hn, if_neg (fun z => hb ⟨(fc_zero m).mp z, (fc_zero n).mp hn⟩)]
      exact hi _
    · rw [if_neg hn]
      exact enc_round _ _ _ _
  · rw [dec_fin a, dec_inf (by omega)]
    exact hz _ _
  · rw [dec_inf (by omega), dec_fin b]
    exact hi _
  · exact absurd ⟨by omega, by omega⟩ ha

theorem mN (x : Int32) : s_X12_isNan x = 0 ↔ nn x % 2147483648 ≤ 2139095040 := by
  have hx := nn_lt x
  rw [s_X12_isNan_eq, and_size]
  have e : nI (nn x % 2147483648) ≤ (2139095040 : Int32) ↔ nn x % 2147483648 ≤ 2139095040 := nI_leI (a := nn x % 2147483648) (b := 2139095040) (by omega) (by decide)
  by_cases c : nn x % 2147483648 ≤ 2139095040
  · rw [if_pos (e.mpr c)]; exact ⟨fun _ => c, fun _ => rfl⟩
  · rw [if_neg (fun z => c (e.mp z))]; exact ⟨fun z => absurd z (by decide), fun z => absurd z c⟩
theorem mI (x : Int32) : s_X12_isInfinite x = 0 ↔ ¬ nn x % 2147483648 = 2139095040 := by
  have hx := nn_lt x
  rw [s_X12_isInfinite_eq, and_size]
  have e : nI (nn x % 2147483648) = (2139095040 : Int32) ↔ nn x % 2147483648 = 2139095040 := nI_eq (a := nn x % 2147483648) (b := 2139095040) (by omega) (by decide)
  by_cases c : nn x % 2147483648 = 2139095040
  · rw [if_pos (e.mpr c)]; exact ⟨fun z => absurd z (by decide), fun z => absurd c z⟩
  · rw [if_neg (fun z => c (e.mp z))]; exact ⟨fun _ => c, fun _ => rfl⟩
theorem mZ (x : Int32) : x &&& (2147483647 : Int32) = 0 ↔ nn x % 2147483648 = 0 := by
  have hx := nn_lt x
  rw [and_size]
  exact nI_eq (a := nn x % 2147483648) (b := 0) (by omega) (by decide)
theorem mE (x y : Int32) : x = y ↔ nn x = nn y := ⟨fun h => by rw [h], fun h => nu_inj h⟩
theorem sni_nn {x : Int32} (h : nn x % 2147483648 ≤ 2139095040) : vn_sni2f x = false := by
  unfold vn_sni2f
  have e : ¬ (x.toUInt32 &&& 0x7fffffff > 0x7f800000) := by
    rw [gt_iff_lt, UInt32.lt_iff_toNat_lt, UInt32.toNat_and]
    show ¬ (2139095040 < nn x &&& 2147483647)
    rw [andS31]; omega
  rw [decide_eq_false e]; rfl
theorem sni_of {x : Int32} (h : s_X12_isNan x = 0) : vn_sni2f x = false := sni_nn ((mN x).mp h)
theorem noN43 {a b : Int32} (h : s_X12_isNoNumber 43 a b = 0) : nn a % 2147483648 ≤ 2139095040 ∧ nn b % 2147483648 ≤ 2139095040 ∧ (nn a % 2147483648 = 2139095040 → nn b % 2147483648 = 2139095040 → nn a = nn b) := by
  rw [s_X12_isNoNumber_eq] at h
  simp only [s_X12_isNoNumber_b34_eq, s_X12_isNoNumber_b35_eq, s_X12_isNoNumber_b113_eq] at h
  simp (decide := true) only [if_true, if_false, if_pos, if_neg] at h
  simp only [mN, mI, mZ, mE a b] at h
  repeat' split at h
  all_goals first | exact absurd h (by decide) | omega
theorem noN45 {a b : Int32} (h : s_X12_isNoNumber 45 a b = 0) : nn a % 2147483648 ≤ 2139095040 ∧ nn b % 2147483648 ≤ 2139095040 ∧ (nn a % 2147483648 = 2139095040 → nn b % 2147483648 = 2139095040 → ¬ nn a = nn b) := by
  rw [s_X12_isNoNumber_eq] at h
  simp only [s_X12_isNoNumber_b34_eq, s_X12_isNoNumber_b35_eq, s_X12_isNoNumber_b113_eq] at h
  simp (decide := true) only [if_true, if_false, if_pos, if_neg] at h
  simp only [mN, mI, mZ, mE a b] at h
  repeat' split at h
  all_goals first | exact absurd h (by decide) | omega
theorem noN42 {a b : Int32} (h : s_X12_isNoNumber 42 a b = 0) : nn a % 2147483648 ≤ 2139095040 ∧ nn b % 2147483648 ≤ 2139095040 ∧ (nn a % 2147483648 = 2139095040 → ¬ nn b % 2147483648 = 0) ∧ (nn b % 2147483648 = 2139095040 → ¬ nn a % 2147483648 = 0) := by
  rw [s_X12_isNoNumber_eq] at h
  simp only [s_X12_isNoNumber_b34_eq, s_X12_isNoNumber_b35_eq, s_X12_isNoNumber_b113_eq] at h
  simp (decide := true) only [if_true, if_false, if_pos, if_neg] at h
  simp only [mN, mI, mZ] at h
  repeat' split at h
  all_goals first | exact absurd h (by decide) | omega
theorem noN47 {g : Int32} {a b : Int32} (hg : ¬ g = 42 ∧ ¬ g = 43 ∧ ¬ g = 45) (h : s_X12_isNoNumber g a b = 0) : nn a % 2147483648 ≤ 2139095040 ∧ nn b % 2147483648 ≤ 2139095040 ∧ ¬ (nn a % 2147483648 = 2139095040 ∧ nn b % 2147483648 = 2139095040) ∧ ¬ (nn a % 2147483648 = 0 ∧ nn b % 2147483648 = 0) := by
  rw [s_X12_isNoNumber_eq] at h
  simp only [s_X12_isNoNumber_b34_eq, s_X12_isNoNumber_b35_eq, s_X12_isNoNumber_b113_eq, if_neg hg.1, if_neg hg.2.1, if_neg hg.2.2] at h
  simp (decide := true) only [if_true, if_false, if_pos, if_neg] at h
  simp only [mN, mI, mZ] at h
  repeat' split at h
  all_goals first | exact absurd h (by decide) | omega
theorem nan43 {a b : Int32} (h : s_X12_isNoNumber 43 a b = 0) : n32 (FP.fadd a.toUInt32 b.toUInt32) = true := by
  obtain ⟨h1, h2, h3⟩ := noN43 h
  have h9 : vf_n32 (FP.fadd a.toUInt32 b.toUInt32) := let q := enc_dat (n32_add (nn_lt a) (nn_lt b) h1 h2 h3); nq_of q.1 q.2
  unfold vf_n32 at h9
  exact decide_eq_true h9
theorem nan45 {a b : Int32} (h : s_X12_isNoNumber 45 a b = 0) : n32 (FP.fsub a.toUInt32 b.toUInt32) = true := by
  obtain ⟨h1, h2, h3⟩ := noN45 h
  have h9 : vf_n32 (FP.fsub a.toUInt32 b.toUInt32) := let q := enc_dat (n32_sub (nn_lt a) (nn_lt b) h1 h2 h3); nq_of q.1 q.2
  unfold vf_n32 at h9
  exact decide_eq_true h9
theorem nan42 {a b : Int32} (h : s_X12_isNoNumber 42 a b = 0) : n32 (FP.fmul a.toUInt32 b.toUInt32) = true := by
  obtain ⟨h1, h2, h3⟩ := noN42 h
  have h9 : vf_n32 (FP.fmul a.toUInt32 b.toUInt32) := let q := enc_dat (n32_mul h1 h2 h3.1 h3.2); nq_of q.1 q.2
  unfold vf_n32 at h9
  exact decide_eq_true h9
theorem nan47 {g : Int32} {a b : Int32} (hg : ¬ g = 42 ∧ ¬ g = 43 ∧ ¬ g = 45) (h : s_X12_isNoNumber g a b = 0) : n32 (FP.fdiv a.toUInt32 b.toUInt32) = true := by
  obtain ⟨h1, h2, h3⟩ := noN47 hg h
  have h9 : vf_n32 (FP.fdiv a.toUInt32 b.toUInt32) := let q := n32_div h1 h2 h3.1 h3.2; nq_of q.1 q.2
  unfold vf_n32 at h9
  exact decide_eq_true h9
theorem nb_t {b : Bool} (h : b = false) : (!b) = true := by rw [h]; rfl
theorem noNN {g a b : Int32} (h : s_X12_isNoNumber g a b = 0) : nn a % 2147483648 ≤ 2139095040 ∧ nn b % 2147483648 ≤ 2139095040 := by
  rw [s_X12_isNoNumber_eq] at h
  by_cases c1 : s_X12_isNan a = 0
  · rw [if_pos c1] at h
    by_cases c2 : s_X12_isNan b = 0
    · exact ⟨(mN a).mp c1, (mN b).mp c2⟩
    · rw [if_neg c2] at h; exact absurd h (by decide)
  · rw [if_neg c1] at h; exact absurd h (by decide)
theorem k_X12_intOf (a0 a1 : Int32) : ok (p_X12_intOf a0 a1) (fun _ => True) := by
  rw [p_X12_intOf_eq]
  refine ok_ite (fun _ => ok_ite (fun c => ok_gd (nb_t (sni_of c)) (ok_some trivial)) (fun _ => ok_some trivial)) (fun _ => ok_some trivial)
theorem k_X12_isLess (a0 a1 : Int32) : ok (p_X12_isLess a0 a1) (fun r => r.toInt = 0 ∨ r.toInt = 1) := by
  rw [p_X12_isLess_eq]
  refine ok_ite (fun c => ok_ite (fun c2 => ok_gd (nb_t (sni_of c)) (ok_gd (nb_t (sni_of c2)) (ok_ite (fun _ => ok_some (Or.inl (by decide))) (fun _ => ok_some (Or.inr (by decide)))))) (fun _ => ok_some (Or.inl (by decide)))) (fun _ => ok_some (Or.inl (by decide)))
theorem k_X12_isSame (a0 a1 : Int32) : ok (p_X12_isSame a0 a1) (fun r => r.toInt = 0 ∨ r.toInt = 1) := by
  rw [p_X12_isSame_eq]
  refine ok_ite (fun c => ok_ite (fun c2 => ok_gd (nb_t (sni_of c)) (ok_gd (nb_t (sni_of c2)) (ok_ite (fun _ => ok_some (Or.inr (by decide))) (fun _ => ok_some (Or.inl (by decide)))))) (fun _ => ok_some (Or.inl (by decide)))) (fun _ => ok_some (Or.inl (by decide)))
theorem k_X12_isGrown_b12 (a0 a1 a2 a3 : Int32) : ok (p_X12_isGrown_b12 a0 a1 a2 a3) (fun r => r.toInt = 0 ∨ r.toInt = 1) := by
  rw [p_X12_isGrown_b12_eq]
  refine ok_bv (fun v2 _ => ok_bv (fun v3 _ => ok_bs (k_X12_isLess v2 v3) (fun r _ => ok_ite (fun _ => ok_some (Or.inr (by decide))) (fun _ => ok_some (Or.inl (by decide))))))
theorem k_X12_isGrown (a0 a1 a2 a3 : Int32) : ok (p_X12_isGrown a0 a1 a2 a3) (fun r => r.toInt = 0 ∨ r.toInt = 1) := by
  rw [p_X12_isGrown_eq]
  exact ok_ite (fun _ => ok_ite (fun _ => ok_some (Or.inl (by decide))) (fun _ => k_X12_isGrown_b12 _ _ _ _)) (fun _ => k_X12_isGrown_b12 _ _ _ _)
theorem k_X12_brokens (a0 a1 a2 : Int32) : ok (p_X12_brokens a0 a1 a2) (fun _ => True) := by
  rw [p_X12_brokens_eq]
  refine ok_ite (fun c => ?_) (fun _ => ok_some trivial)
  refine ok_gd (nb_t (sni_nn (noNN c).1)) (ok_bv (fun v3 e3 => ok_gd (nb_t (sni_nn (noNN c).2)) (ok_bv (fun v5 e5 => ?_))))
  subst e3 e5
  refine ok_ite (fun c1 => ?_) (fun c1 => ok_ite (fun c2 => ?_) (fun c2 => ok_ite (fun c3 => ?_) (fun c3 => ok_ite (fun c4 => ?_) (fun c4 => ?_))))
  · subst c1; exact ok_gd (nan42 c) (ok_some trivial)
  · subst c2; exact ok_gd (nan43 c) (ok_some trivial)
  · subst c3; exact ok_gd (nan47 (by decide) c) (ok_some trivial)
  · subst c4; exact ok_gd (nan45 c) (ok_some trivial)
  · exact ok_gd (nan47 ⟨c1, c2, c4⟩ c) (ok_some trivial)
theorem n32_dec (v : Int32) {k : UInt32} (h : k = 1092616192 ∨ k = 1120403456 ∨ k = 1148846080) : n32 (FP.fdiv (FP.i2f v) k) = true := by
  have h0 : FP.Core.fromInt FP.Core.b32 v.toInt % 2147483648 ≤ 2139095040 ∧ FP.Core.fromInt FP.Core.b32 v.toInt < 4294967296 := enc_dat (D := FP.Core.Datum.fin (decide (v.toInt < 0)) v.toInt.natAbs 0) (by intro z; cases z)
  have e1 : (FP.i2f v).toNat = FP.Core.fromInt FP.Core.b32 v.toInt := by
    show (UInt32.ofNat (FP.Core.fromInt FP.Core.b32 v.toInt)).toNat = _
    rw [UInt32.toNat_ofNat', Nat.mod_eq_of_lt h0.2]
  have h2 : k.toNat % 2147483648 ≤ 2139095040 ∧ k.toNat % 2147483648 ≠ 2139095040 ∧ k.toNat % 2147483648 ≠ 0 := by
    rcases h with h | h | h <;> subst h <;> decide
  have q := n32_div (m := (FP.i2f v).toNat) (n := k.toNat) (by rw [e1]; exact h0.1) h2.1 (fun z => h2.2.1 z.2) (fun z => h2.2.2 z.2)
  have h9 : vf_n32 (FP.fdiv (FP.i2f v) k) := nq_of q.1 q.2
  unfold vf_n32 at h9
  exact decide_eq_true h9
