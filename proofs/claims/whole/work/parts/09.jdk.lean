/-! Constants, bits, shifts, switches, Math, POWERS, the script. -/
section GJ9
theorem i_and (a b : Nat) : Int32.ofInt (a : Int) &&& Int32.ofInt (b : Int) = Int32.ofInt ((a &&& b : Nat) : Int) := by
  rw [← Int32.toBitVec_inj]
  simp [Int32.toBitVec_and, Int32.toBitVec_ofInt, BitVec.ofInt_natCast, BitVec.ofNat_and]
theorem i_or (a b : Nat) : Int32.ofInt (a : Int) ||| Int32.ofInt (b : Int) = Int32.ofInt ((a ||| b : Nat) : Int) := by
  rw [← Int32.toBitVec_inj]
  simp [Int32.toBitVec_or, Int32.toBitVec_ofInt, BitVec.ofInt_natCast, BitVec.ofNat_or]
theorem i_xor (a b : Nat) : Int32.ofInt (a : Int) ^^^ Int32.ofInt (b : Int) = Int32.ofInt ((a ^^^ b : Nat) : Int) := by
  rw [← Int32.toBitVec_inj]
  simp [Int32.toBitVec_xor, Int32.toBitVec_ofInt, BitVec.ofInt_natCast, BitVec.ofNat_xor]
theorem sh_amt : ∀ b : Nat, b < 32 → ((Int32.ofInt (b : Int) &&& 31).toBitVec.smod 32) = BitVec.ofNat 32 b := by decide +kernel
theorem two_amt : ∀ b : Nat, b < 32 → BitVec.ofInt 32 ((2 ^ b : Nat) : Int) = BitVec.twoPow 32 b := by decide +kernel
theorem i_shl (a : Int) {b : Nat} (hb : b < 32) : Int32.ofInt a <<< (Int32.ofInt (b : Int) &&& 31) = Int32.ofInt (a * ((2 ^ b : Nat) : Int)) := by
  rw [← Int32.toBitVec_inj]
  show (Int32.ofInt a).toBitVec <<< ((Int32.ofInt (b : Int) &&& 31).toBitVec.smod 32) = _
  rw [sh_amt b hb, Int32.toBitVec_ofInt, Int32.toBitVec_ofInt, BitVec.ofInt_mul, two_amt b hb]
  rw [BitVec.shiftLeft_eq', BitVec.toNat_ofNat, Nat.mod_eq_of_lt (by omega), BitVec.shiftLeft_eq_mul_twoPow]
theorem i_shr {a : Int} (ha : R32 a) {b : Nat} (hb : b < 32) : Int32.ofInt a >>> (Int32.ofInt (b : Int) &&& 31) = Int32.ofInt (a / ((2 ^ b : Nat) : Int)) := by
  have e1 : (Int32.ofInt a >>> (Int32.ofInt (b : Int) &&& 31)).toInt = a / ((2 ^ b : Nat) : Int) := by
    show (BitVec.sshiftRight' (Int32.ofInt a).toBitVec ((Int32.ofInt (b : Int) &&& 31).toBitVec.smod 32)).toInt = _
    rw [sh_amt b hb, BitVec.sshiftRight', BitVec.toInt_sshiftRight, BitVec.toNat_ofNat, Nat.mod_eq_of_lt (by omega)]
    show (Int32.ofInt a).toInt >>> b = _
    rw [toI ha, Int.shiftRight_eq_div_pow]
  have h2 : (0 : Int) < ((2 ^ b : Nat) : Int) := by exact_mod_cast Nat.pos_of_ne_zero (by simp)
  have h3 : R32 (a / ((2 ^ b : Nat) : Int)) := by
    constructor
    · have := ha.1
      have h4 : a / ((2 ^ b : Nat) : Int) ≥ -2147483648 := by
        rw [ge_iff_le, Int.le_ediv_iff_mul_le h2]
        have h5 : (1 : Int) ≤ ((2 ^ b : Nat) : Int) := h2
        have : (-2147483648 : Int) * ((2 ^ b : Nat) : Int) ≤ -2147483648 * 1 := Int.mul_le_mul_of_nonpos_left (by omega) h5
        omega
      exact h4
    · have h6 := ha.2
      have h7 : a / ((2 ^ b : Nat) : Int) ≤ 2147483647 := by
        rcases Int.lt_or_le a 0 with h | h
        · have := Int.ediv_neg_of_neg_of_pos h h2
          omega
        · have := Int.ediv_le_self ((2 ^ b : Nat) : Int) h
          omega
      exact h7
  rw [← Int32.toInt_inj, e1, toI h3]
variable {g : gT} {y : yT} {k n : Nat} {Φ : mO → mM → Prop} {pc : Nat} {L : List (Option Value)} {st : List Value} {M : mM}
theorem g_iand {a b : Nat} (hd : decode (yB y) pc = .ok (.iand, 1)) (h : GW g y k n Φ (pc + 1) L (iv ((a &&& b : Nat) : Int) :: st) M) : GW g y k n Φ pc L (iv (b : Int) :: iv (a : Int) :: st) M := by
  intro p e R s m args below meth c H locs cells slots ν ν0 n0 ls C hc hs hM hk hn hS hl
  exact lv_iand C.1 C.2.1 hd (by rw [i_and]; exact h p e R s m args below meth c H locs cells slots ν ν0 n0 ls C hc hs hM hk hn hS hl)
theorem g_ior {a b : Nat} (hd : decode (yB y) pc = .ok (.ior, 1)) (h : GW g y k n Φ (pc + 1) L (iv ((a ||| b : Nat) : Int) :: st) M) : GW g y k n Φ pc L (iv (b : Int) :: iv (a : Int) :: st) M := by
  intro p e R s m args below meth c H locs cells slots ν ν0 n0 ls C hc hs hM hk hn hS hl
  exact lv_ior C.1 C.2.1 hd (by rw [i_or]; exact h p e R s m args below meth c H locs cells slots ν ν0 n0 ls C hc hs hM hk hn hS hl)
theorem g_ixor {a b : Nat} (hd : decode (yB y) pc = .ok (.ixor, 1)) (h : GW g y k n Φ (pc + 1) L (iv ((a ^^^ b : Nat) : Int) :: st) M) : GW g y k n Φ pc L (iv (b : Int) :: iv (a : Int) :: st) M := by
  intro p e R s m args below meth c H locs cells slots ν ν0 n0 ls C hc hs hM hk hn hS hl
  exact lv_ixor C.1 C.2.1 hd (by rw [i_xor]; exact h p e R s m args below meth c H locs cells slots ν ν0 n0 ls C hc hs hM hk hn hS hl)
/-! the same, of raw ints -/
theorem g_iandR {a b : Int32} (hd : decode (yB y) pc = .ok (.iand, 1)) (h : GW g y k n Φ (pc + 1) L (.int (a &&& b) :: st) M) : GW g y k n Φ pc L (.int b :: .int a :: st) M := by
  intro p e R s m args below meth c H locs cells slots ν ν0 n0 ls C hc hs hM hk hn hS hl
  exact lv_iand C.1 C.2.1 hd (h p e R s m args below meth c H locs cells slots ν ν0 n0 ls C hc hs hM hk hn hS hl)
theorem g_ixorR {a b : Int32} (hd : decode (yB y) pc = .ok (.ixor, 1)) (h : GW g y k n Φ (pc + 1) L (.int (a ^^^ b) :: st) M) : GW g y k n Φ pc L (.int b :: .int a :: st) M := by
  intro p e R s m args below meth c H locs cells slots ν ν0 n0 ls C hc hs hM hk hn hS hl
  exact lv_ixor C.1 C.2.1 hd (h p e R s m args below meth c H locs cells slots ν ν0 n0 ls C hc hs hM hk hn hS hl)
theorem g_iaddR {a b : Int32} (hd : decode (yB y) pc = .ok (.iadd, 1)) (h : GW g y k n Φ (pc + 1) L (.int (a + b) :: st) M) : GW g y k n Φ pc L (.int b :: .int a :: st) M := by
  intro p e R s m args below meth c H locs cells slots ν ν0 n0 ls C hc hs hM hk hn hS hl
  exact lv_iadd C.1 C.2.1 hd (h p e R s m args below meth c H locs cells slots ν ν0 n0 ls C hc hs hM hk hn hS hl)
theorem g_isubR {a b : Int32} (hd : decode (yB y) pc = .ok (.isub, 1)) (h : GW g y k n Φ (pc + 1) L (.int (a - b) :: st) M) : GW g y k n Φ pc L (.int b :: .int a :: st) M := by
  intro p e R s m args below meth c H locs cells slots ν ν0 n0 ls C hc hs hM hk hn hS hl
  exact lv_isub C.1 C.2.1 hd (h p e R s m args below meth c H locs cells slots ν ν0 n0 ls C hc hs hM hk hn hS hl)
theorem g_iushrR {a b : Int32} (hd : decode (yB y) pc = .ok (.iushr, 1)) (h : ∀ v : Int32, (a.toUInt32 >>> (b.toUInt32 &&& 31)).toInt32 = v → GW g y k n Φ (pc + 1) L (.int v :: st) M) : GW g y k n Φ pc L (.int b :: .int a :: st) M := by
  intro p e R s m args below meth c H locs cells slots ν ν0 n0 ls C hc hs hM hk hn hS hl
  exact lv_iushr C.1 C.2.1 hd rfl (h _ rfl p e R s m args below meth c H locs cells slots ν ν0 n0 ls C hc hs hM hk hn hS hl)
theorem g_ishl {a : Int} {b : Nat} (hb : b < 32) (hd : decode (yB y) pc = .ok (.ishl, 1)) (h : GW g y k n Φ (pc + 1) L (iv (a * ((2 ^ b : Nat) : Int)) :: st) M) : GW g y k n Φ pc L (iv (b : Int) :: iv a :: st) M := by
  intro p e R s m args below meth c H locs cells slots ν ν0 n0 ls C hc hs hM hk hn hS hl
  exact lv_ishl C.1 C.2.1 hd (by rw [i_shl a hb]; exact h p e R s m args below meth c H locs cells slots ν ν0 n0 ls C hc hs hM hk hn hS hl)
theorem g_ishr {a : Int} {b : Nat} (ha : R32 a) (hb : b < 32) (hd : decode (yB y) pc = .ok (.ishr, 1)) (h : GW g y k n Φ (pc + 1) L (iv (a / ((2 ^ b : Nat) : Int)) :: st) M) : GW g y k n Φ pc L (iv (b : Int) :: iv a :: st) M := by
  intro p e R s m args below meth c H locs cells slots ν ν0 n0 ls C hc hs hM hk hn hS hl
  exact lv_ishr C.1 C.2.1 hd (by rw [i_shr ha hb]; exact h p e R s m args below meth c H locs cells slots ν ν0 n0 ls C hc hs hM hk hn hS hl)
/-! longs, raw -/
theorem g_landR {a b : Int64} (hd : decode (yB y) pc = .ok (.land, 1)) (h : GW g y k n Φ (pc + 1) L (.long (a &&& b) :: st) M) : GW g y k n Φ pc L (.long b :: .long a :: st) M := by
  intro p e R s m args below meth c H locs cells slots ν ν0 n0 ls C hc hs hM hk hn hS hl
  exact lv_land C.1 C.2.1 hd (h p e R s m args below meth c H locs cells slots ν ν0 n0 ls C hc hs hM hk hn hS hl)
theorem g_lorR {a b : Int64} (hd : decode (yB y) pc = .ok (.lor, 1)) (h : GW g y k n Φ (pc + 1) L (.long (a ||| b) :: st) M) : GW g y k n Φ pc L (.long b :: .long a :: st) M := by
  intro p e R s m args below meth c H locs cells slots ν ν0 n0 ls C hc hs hM hk hn hS hl
  exact lv_lor C.1 C.2.1 hd (h p e R s m args below meth c H locs cells slots ν ν0 n0 ls C hc hs hM hk hn hS hl)
theorem g_lushrR {a : Int64} {b : Int32} (hd : decode (yB y) pc = .ok (.lushr, 1)) (h : GW g y k n Φ (pc + 1) L (.long (a.toUInt64 >>> (b.toInt64.toUInt64 &&& Int64.toUInt64 63)).toInt64 :: st) M) : GW g y k n Φ pc L (.int b :: .long a :: st) M := by
  intro p e R s m args below meth c H locs cells slots ν ν0 n0 ls C hc hs hM hk hn hS hl
  exact lv_lushr C.1 C.2.1 hd rfl (h p e R s m args below meth c H locs cells slots ν ν0 n0 ls C hc hs hM hk hn hS hl)
theorem g_lshlR {a : Int64} {b : Int32} (hd : decode (yB y) pc = .ok (.lshl, 1)) (h : GW g y k n Φ (pc + 1) L (.long (a <<< (b.toInt64 &&& 63)) :: st) M) : GW g y k n Φ pc L (.int b :: .long a :: st) M := by
  intro p e R s m args below meth c H locs cells slots ν ν0 n0 ls C hc hs hM hk hn hS hl
  exact lv_lshl C.1 C.2.1 hd rfl (h p e R s m args below meth c H locs cells slots ν ν0 n0 ls C hc hs hM hk hn hS hl)
theorem g_lshrR {a : Int64} {b : Int32} (hd : decode (yB y) pc = .ok (.lshr, 1)) (h : GW g y k n Φ (pc + 1) L (.long (a >>> (b.toInt64 &&& 63)) :: st) M) : GW g y k n Φ pc L (.int b :: .long a :: st) M := by
  intro p e R s m args below meth c H locs cells slots ν ν0 n0 ls C hc hs hM hk hn hS hl
  exact lv_lshr C.1 C.2.1 hd rfl (h p e R s m args below meth c H locs cells slots ν ν0 n0 ls C hc hs hM hk hn hS hl)
theorem g_i2lR {a : Int32} (hd : decode (yB y) pc = .ok (.i2l, 1)) (h : GW g y k n Φ (pc + 1) L (.long a.toInt64 :: st) M) : GW g y k n Φ pc L (.int a :: st) M := by
  intro p e R s m args below meth c H locs cells slots ν ν0 n0 ls C hc hs hM hk hn hS hl
  exact lv_i2l C.1 C.2.1 hd rfl (h p e R s m args below meth c H locs cells slots ν ν0 n0 ls C hc hs hM hk hn hS hl)
theorem g_l2iR {a : Int64} (hd : decode (yB y) pc = .ok (.l2i, 1)) (h : GW g y k n Φ (pc + 1) L (.int a.toInt32 :: st) M) : GW g y k n Φ pc L (.long a :: st) M := by
  intro p e R s m args below meth c H locs cells slots ν ν0 n0 ls C hc hs hM hk hn hS hl
  exact lv_l2i C.1 C.2.1 hd rfl (h p e R s m args below meth c H locs cells slots ν ν0 n0 ls C hc hs hM hk hn hS hl)
theorem g_lcmpR {a b : Int64} (hd : decode (yB y) pc = .ok (.lcmp, 1)) (h : GW g y k n Φ (pc + 1) L (.int (lg_cmp a b) :: st) M) : GW g y k n Φ pc L (.long b :: .long a :: st) M := by
  intro p e R s m args below meth c H locs cells slots ν ν0 n0 ls C hc hs hM hk hn hS hl
  exact W.lcmp C.1 C.2.1 hd (h p e R s m args below meth c H locs cells slots ν ν0 n0 ls C hc hs hM hk hn hS hl)
/-! floats -/
theorem g_i2f {a : Int32} (hd : decode (yB y) pc = .ok (.i2f, 1)) (h : GW g y k n Φ (pc + 1) L (.float (FP.i2f a) :: st) M) : GW g y k n Φ pc L (.int a :: st) M := by
  intro p e R s m args below meth c H locs cells slots ν ν0 n0 ls C hc hs hM hk hn hS hl
  exact lv_i2f C.1 C.2.1 hd (h p e R s m args below meth c H locs cells slots ν ν0 n0 ls C hc hs hM hk hn hS hl)
theorem g_i2d {a : Int32} (hd : decode (yB y) pc = .ok (.i2d, 1)) (h : GW g y k n Φ (pc + 1) L (.double (FP.i2d a) :: st) M) : GW g y k n Φ pc L (.int a :: st) M := by
  intro p e R s m args below meth c H locs cells slots ν ν0 n0 ls C hc hs hM hk hn hS hl
  exact lv_i2d C.1 C.2.1 hd (h p e R s m args below meth c H locs cells slots ν ν0 n0 ls C hc hs hM hk hn hS hl)
theorem g_fdiv {a b : UInt32} (hN : vf_n32 (FP.fdiv a b)) (hd : decode (yB y) pc = .ok (.fdiv, 1)) (h : GW g y k n Φ (pc + 1) L (.float (FP.fdiv a b) :: st) M) : GW g y k n Φ pc L (.float b :: .float a :: st) M := by
  intro p e R s m args below meth c H locs cells slots ν ν0 n0 ls C hc hs hM hk hn hS hl
  exact lv_fdiv C.1 C.2.1 hd hN (h p e R s m args below meth c H locs cells slots ν ν0 n0 ls C hc hs hM hk hn hS hl)
theorem g_ddiv {a b : UInt64} (hN : vf_n64 (FP.ddiv a b)) (hd : decode (yB y) pc = .ok (.ddiv, 1)) (h : GW g y k n Φ (pc + 1) L (.double (FP.ddiv a b) :: st) M) : GW g y k n Φ pc L (.double b :: .double a :: st) M := by
  intro p e R s m args below meth c H locs cells slots ν ν0 n0 ls C hc hs hM hk hn hS hl
  exact lv_ddiv C.1 C.2.1 hd hN (h p e R s m args below meth c H locs cells slots ν ν0 n0 ls C hc hs hM hk hn hS hl)
theorem g_f2d {a : UInt32} (hN : vf_n64 (FP.f2d a)) (hd : decode (yB y) pc = .ok (.f2d, 1)) (h : GW g y k n Φ (pc + 1) L (.double (FP.f2d a) :: st) M) : GW g y k n Φ pc L (.float a :: st) M := by
  intro p e R s m args below meth c H locs cells slots ν ν0 n0 ls C hc hs hM hk hn hS hl
  exact lv_f2d C.1 C.2.1 hd hN (h p e R s m args below meth c H locs cells slots ν ν0 n0 ls C hc hs hM hk hn hS hl)
theorem g_fcmp {op : CmpOp} {a b : UInt32} (hd : decode (yB y) pc = .ok (.fcmp op, 1)) (h : GW g y k n Φ (pc + 1) L (.int (Op.cmpValue (FP.fcmp a b) op) :: st) M) : GW g y k n Φ pc L (.float b :: .float a :: st) M := by
  intro p e R s m args below meth c H locs cells slots ν ν0 n0 ls C hc hs hM hk hn hS hl
  exact lv_fcmp C.1 C.2.1 hd (h p e R s m args below meth c H locs cells slots ν ν0 n0 ls C hc hs hM hk hn hS hl)
theorem g_dcmp {op : CmpOp} {a b : UInt64} (hd : decode (yB y) pc = .ok (.dcmp op, 1)) (h : GW g y k n Φ (pc + 1) L (.int (Op.cmpValue (FP.dcmp a b) op) :: st) M) : GW g y k n Φ pc L (.double b :: .double a :: st) M := by
  intro p e R s m args below meth c H locs cells slots ν ν0 n0 ls C hc hs hM hk hn hS hl
  exact lv_dcmp C.1 C.2.1 hd (h p e R s m args below meth c H locs cells slots ν ν0 n0 ls C hc hs hM hk hn hS hl)
/-! the constant pool -/
theorem g_ldc {idx : Nat} {v : Int32} (hw : Cond.constant (yN y).cls idx v ∈ WS) (hd : decode (yB y) pc = .ok (.ldc idx, 2)) (h : GW g y k n Φ (pc + 2) L (.int v :: st) M) : GW g y k n Φ pc L st M := by
  intro p e R s m args below meth c H locs cells slots ν ν0 n0 ls C hc hs hM hk hn hS hl
  exact lv_ldc C.1 C.2.1 C.2.2.2.1 (C.2.2.2.2.1 _ hw) hd (h p e R s m args below meth c H locs cells slots ν ν0 n0 ls C hc hs hM hk hn hS hl)
theorem g_ldcw {idx : Nat} {v : Int32} (hw : Cond.constant (yN y).cls idx v ∈ WS) (hd : decode (yB y) pc = .ok (.ldc_w idx, 3)) (h : GW g y k n Φ (pc + 3) L (.int v :: st) M) : GW g y k n Φ pc L st M := by
  intro p e R s m args below meth c H locs cells slots ν ν0 n0 ls C hc hs hM hk hn hS hl
  exact lv_ldcw C.1 C.2.1 C.2.2.2.1 (C.2.2.2.2.1 _ hw) hd (h p e R s m args below meth c H locs cells slots ν ν0 n0 ls C hc hs hM hk hn hS hl)
theorem g_ldc2 {idx : Nat} {v : Int64} (hw : Cond.constantLong (yN y).cls idx v ∈ WS) (hd : decode (yB y) pc = .ok (.ldc2_w idx, 3)) (h : GW g y k n Φ (pc + 3) L (.long v :: st) M) : GW g y k n Φ pc L st M := by
  intro p e R s m args below meth c H locs cells slots ν ν0 n0 ls C hc hs hM hk hn hS hl
  exact lv_ldc2 C.1 C.2.1 C.2.2.2.1 (C.2.2.2.2.1 _ hw) hd (h p e R s m args below meth c H locs cells slots ν ν0 n0 ls C hc hs hM hk hn hS hl)
theorem g_ldcS {idx i : Nat} {tx : String} (hw : ((yN y).cls, idx, tx, i) ∈ STN) (hd : decode (yB y) pc = .ok (.ldc idx, 2)) (h : GW g y k n Φ (pc + 2) L (.ref (KB + (2 + i)) :: st) M) : GW g y k n Φ pc L st M := by
  intro p e R s m args below meth c H locs cells slots ν ν0 n0 ls C hc hs hM hk hn hS hl
  have hG := C.2.2.2.2.2.2.2.2.2.2.2
  have h1 := h p e R s m args below meth c H locs cells slots ν ν0 n0 ls C hc hs hM hk hn hS hl
  rw [List.map_cons, show rV g ν (.ref (KB + (2 + i))) = .ref (gk g (2 + i)) from congrArg Value.ref rN_ge] at h1
  exact va_ldcS C.1 C.2.1 C.2.2.2.1 (hG.2.2.2.2.2.2.2.2.2.2.2.1 _ hw) hd h1
/-! POWERS -/
def LKF (own : String) (idx : Nat) (nm d : String) : Prop := Cond.fieldLink own idx RX5 nm d ∈ WS ∨ ∃ host, Cond.fieldLinkNest own idx RX5 nm d host ∈ NW
theorem g_gets {idx : Nat} (hw : LKF (yN y).cls idx "POWERS" "[I") (hd : decode (yB y) pc = .ok (.getstatic idx, 3)) (h : GW g y k n Φ (pc + 3) L (.ref KB :: st) M) : GW g y k n Φ pc L st M := by
  intro p e R s m args below meth c H locs cells slots ν ν0 n0 ls C hc hs hM hk hn hS hl
  have hG := C.2.2.2.2.2.2.2.2.2.2.2
  have h1 := h p e R s m args below meth c H locs cells slots ν ν0 n0 ls C hc hs hM hk hn hS hl
  rw [List.map_cons, show rV g ν (.ref KB) = .ref (gk g 0) from congrArg Value.ref (rN_ge (n := 0))] at h1
  rcases hw with hw | ⟨host, hw⟩
  · exact va_gets C.1 C.2.1 hG.2.2.2.2.1 hS C.2.2.2.1 (C.2.2.2.2.1 _ hw) (fun x hx => hx) hd h1
  · exact va_getsN C.1 C.2.1 hG.2.2.2.2.1 hS C.2.2.2.1 (va_Nw.use rfl (hG.2.2.1 _ hw)) (fun x hx => hx) hd h1
theorem g_ialdP {i : Int} (hi : 0 ≤ i ∧ i < 8) (hd : decode (yB y) pc = .ok (.iaload, 1)) (h : GW g y k n Φ (pc + 1) L (iv ((3 ^ i.toNat : Nat) : Int) :: st) M) : GW g y k n Φ pc L (iv i :: .ref KB :: st) M := by
  intro p e R s m args below meth c H locs cells slots ν ν0 n0 ls C hc hs hM hk hn hS hl
  have hG := C.2.2.2.2.2.2.2.2.2.2.2
  have h1 := h p e R s m args below meth c H locs cells slots ν ν0 n0 ls C hc hs hM hk hn hS hl
  rw [List.map_cons, List.map_cons, show rV g ν (.ref KB) = .ref (gk g 0) from congrArg Value.ref (rN_ge (n := 0))]
  refine va_ti C.1 C.2.1 hG.2.2.2.2.2.1 hS (in_ix (N := 8) (by omega) (by omega)) ?_ hd h1
  rw [ix_nat hi.1 (by omega)]
  show Value.int _ = Value.int _
  congr 2
theorem g_alenP (hd : decode (yB y) pc = .ok (.arraylength, 1)) (h : GW g y k n Φ (pc + 1) L (iv 8 :: st) M) : GW g y k n Φ pc L (.ref KB :: st) M := by
  intro p e R s m args below meth c H locs cells slots ν ν0 n0 ls C hc hs hM hk hn hS hl
  have hG := C.2.2.2.2.2.2.2.2.2.2.2
  have h1 := h p e R s m args below meth c H locs cells slots ν ν0 n0 ls C hc hs hM hk hn hS hl
  rw [List.map_cons, show rV g ν (.ref KB) = .ref (gk g 0) from congrArg Value.ref (rN_ge (n := 0))]
  exact va_tlen C.1 C.2.1 hG.2.2.2.2.2.1 hS rfl hd h1
/-! the script -/
theorem g_slen (hd : decode (yB y) pc = .ok (.arraylength, 1)) (h : GW g y k n Φ (pc + 1) L (iv (gN g : Int) :: st) M) : GW g y k n Φ pc L (.ref (KB + 1) :: st) M := by
  intro p e R s m args below meth c H locs cells slots ν ν0 n0 ls C hc hs hM hk hn hS hl
  have hG := C.2.2.2.2.2.2.2.2.2.2.2
  have h1 := h p e R s m args below meth c H locs cells slots ν ν0 n0 ls C hc hs hM hk hn hS hl
  rw [List.map_cons, show rV g ν (.ref (KB + 1)) = .ref (gk g 1) from congrArg Value.ref rN_ge]
  have hlt := hG.2.2.2.2.2.2.2.2.2.1
  exact va_slen C.1 C.2.1 hG.2.2.2.2.2.2.2.2.1 (Nat.lt_of_lt_of_le hlt hG.2.1) (Nat.not_le.mpr hlt) hS hd h1
theorem g_sld {i : Int} (hi : 0 ≤ i ∧ i < gN g) (hN : i ≤ 2147483647) (hd : decode (yB y) pc = .ok (.iaload, 1)) (h : GW g y k n Φ (pc + 1) L (.int (gX g i.toNat) :: st) M) : GW g y k n Φ pc L (iv i :: .ref (KB + 1) :: st) M := by
  intro p e R s m args below meth c H locs cells slots ν ν0 n0 ls C hc hs hM hk hn hS hl
  have hG := C.2.2.2.2.2.2.2.2.2.2.2
  have h1 := h p e R s m args below meth c H locs cells slots ν ν0 n0 ls C hc hs hM hk hn hS hl
  rw [List.map_cons, List.map_cons, show rV g ν (.ref (KB + 1)) = .ref (gk g 1) from congrArg Value.ref rN_ge]
  have hlt := hG.2.2.2.2.2.2.2.2.2.1
  exact va_sld C.1 C.2.1 hG.2.2.2.2.2.2.2.2.1 (Nat.lt_of_lt_of_le hlt hG.2.1) (Nat.not_le.mpr hlt) hS (in_ix hi hN) hd (by rw [ix_nat hi.1 hN]; exact h1)
/-! switches -/
theorem g_tabOut {dflt lo hi : Int} {offs : Array Int} {len : Nat} {i : Int} {tgt : Nat} (hi0 : R32 i) (hx : i < lo ∨ hi < i) (hd : decode (yB y) pc = .ok (.tableswitch dflt lo hi offs, len)) (ht : (pc : Int) + dflt = (tgt : Int)) (h : GW g y k n Φ tgt L st M) : GW g y k n Φ pc L (iv i :: st) M := by
  intro p e R s m args below meth c H locs cells slots ν ν0 n0 ls C hc hs hM hk hn hS hl
  exact lv_tableOut C.1 C.2.1 hd (by rw [toI hi0]; exact hx) ht (h p e R s m args below meth c H locs cells slots ν ν0 n0 ls C hc hs hM hk hn hS hl)
theorem g_tabIn {dflt lo hi : Int} {offs : Array Int} {len : Nat} {i off : Int} {tgt : Nat} (hi0 : R32 i) (h1 : lo ≤ i) (h2 : i ≤ hi) (hd : decode (yB y) pc = .ok (.tableswitch dflt lo hi offs, len)) (ho : offs[(i - lo).toNat]? = some off) (ht : (pc : Int) + off = (tgt : Int)) (h : GW g y k n Φ tgt L st M) : GW g y k n Φ pc L (iv i :: st) M := by
  intro p e R s m args below meth c H locs cells slots ν ν0 n0 ls C hc hs hM hk hn hS hl
  exact lv_tableIn C.1 C.2.1 hd (by rw [toI hi0]; omega) (by rw [toI hi0]; omega) (by rw [toI hi0]; exact ho) ht (h p e R s m args below meth c H locs cells slots ν ν0 n0 ls C hc hs hM hk hn hS hl)
/-! Math -/
def okMa (own : String) (idx : Nat) (nm : MethodName) (code : ByteArray) (ml : Nat) (rt : FieldType) : Prop := Cond.methodLink own idx nm ∈ WS ∧ Cond.static nm ∈ WS ∧ Cond.initialized "java/lang/Math" ∈ WS ∧ Cond.code nm code ml (some rt) ∈ WS
theorem sum_rV {g : gT} {ν : Nat → Nat} {st : List Value} : ((st.map (rV g ν)).map fun v => v.category).sum = (st.map fun v => v.category).sum := by
  rw [List.map_map]
  exact congrArg List.sum (List.map_congr_left fun v _ => rV_cat g ν v)
theorem g_mmin {a b : Int} {idx : Nat} (ha : R32 a) (hb : R32 b) (hw : okMa (yN y).cls idx Lib.Math.min.name Lib.Math.min.code 2 .int) (hroom : 1 ≤ yF y ∧ (st.map fun v => v.category).sum + 13 ≤ yL y) (hd : decode (yB y) pc = .ok (.invokestatic idx, 3)) (h : GW g y k n Φ (pc + 3) L (iv (min a b) :: st) M) : GW g y k n Φ pc L (iv b :: iv a :: st) M := by
  intro p e R s m args below meth c H locs cells slots ν ν0 n0 ls C hc hs hM hk hn hS hl
  have hw2 := C.2.2.2.2.1
  have h1 := h p e R s m args below meth c H locs cells slots ν ν0 n0 ls C hc hs hM hk hn hS hl
  have q1 : yF y ≤ R.frames := C.2.2.2.2.2.2.2.2.1
  have q2 : yL y ≤ R.locals := C.2.2.2.2.2.2.2.2.2.1
  refine va_mmin C.1 C.2.1 (C.2.2.1.trans hl.1.symm) C.2.2.2.1 (hw2 _ hw.1) (hw2 _ hw.2.1) (hw2 _ hw.2.2.1) (hw2 _ hw.2.2.2) (by omega) (by rw [sum_rV]; omega) (by omega) (by omega) hd ?_
  have e1 : (if Int32.ofInt b < Int32.ofInt a then Int32.ofInt b else Int32.ofInt a) = Int32.ofInt (min a b) := by
    by_cases h9 : b < a
    · rw [if_pos ((i_lt hb ha).mpr h9), Int.min_eq_right (by omega)]
    · rw [if_neg (fun h8 => h9 ((i_lt hb ha).mp h8)), Int.min_eq_left (by omega)]
  rw [e1]
  exact h1
theorem g_mmax {a b : Int} {idx : Nat} (ha : R32 a) (hb : R32 b) (hw : okMa (yN y).cls idx Lib.Math.max.name Lib.Math.max.code 2 .int) (hroom : 1 ≤ yF y ∧ (st.map fun v => v.category).sum + 13 ≤ yL y) (hd : decode (yB y) pc = .ok (.invokestatic idx, 3)) (h : GW g y k n Φ (pc + 3) L (iv (max a b) :: st) M) : GW g y k n Φ pc L (iv b :: iv a :: st) M := by
  intro p e R s m args below meth c H locs cells slots ν ν0 n0 ls C hc hs hM hk hn hS hl
  have hw2 := C.2.2.2.2.1
  have h1 := h p e R s m args below meth c H locs cells slots ν ν0 n0 ls C hc hs hM hk hn hS hl
  have q1 : yF y ≤ R.frames := C.2.2.2.2.2.2.2.2.1
  have q2 : yL y ≤ R.locals := C.2.2.2.2.2.2.2.2.2.1
  refine va_mmax C.1 C.2.1 (C.2.2.1.trans hl.1.symm) C.2.2.2.1 (hw2 _ hw.1) (hw2 _ hw.2.1) (hw2 _ hw.2.2.1) (hw2 _ hw.2.2.2) (by omega) (by rw [sum_rV]; omega) (by omega) (by omega) hd ?_
  have e1 : (if Int32.ofInt a < Int32.ofInt b then Int32.ofInt b else Int32.ofInt a) = Int32.ofInt (max a b) := by
    by_cases h9 : a < b
    · rw [if_pos ((i_lt ha hb).mpr h9), Int.max_eq_right (by omega)]
    · rw [if_neg (fun h8 => h9 ((i_lt ha hb).mp h8)), Int.max_eq_left (by omega)]
  rw [e1]
  exact h1
theorem g_mabs {a : Int} {idx : Nat} (ha : R32 a) (hw : okMa (yN y).cls idx Lib.Math.abs.name Lib.Math.abs.code 1 .int) (hroom : 1 ≤ yF y ∧ (st.map fun v => v.category).sum + 13 ≤ yL y) (hd : decode (yB y) pc = .ok (.invokestatic idx, 3)) (h : GW g y k n Φ (pc + 3) L (iv (if 0 ≤ a then a else -a) :: st) M) : GW g y k n Φ pc L (iv a :: st) M := by
  intro p e R s m args below meth c H locs cells slots ν ν0 n0 ls C hc hs hM hk hn hS hl
  have hw2 := C.2.2.2.2.1
  have h1 := h p e R s m args below meth c H locs cells slots ν ν0 n0 ls C hc hs hM hk hn hS hl
  have q1 : yF y ≤ R.frames := C.2.2.2.2.2.2.2.2.1
  have q2 : yL y ≤ R.locals := C.2.2.2.2.2.2.2.2.2.1
  refine va_mabs C.1 C.2.1 (C.2.2.1.trans hl.1.symm) C.2.2.2.1 (hw2 _ hw.1) (hw2 _ hw.2.1) (hw2 _ hw.2.2.1) (hw2 _ hw.2.2.2) (by omega) (by rw [sum_rV]; omega) (by omega) (by omega) hd ?_
  have e1 : (if 0 ≤ Int32.ofInt a then Int32.ofInt a else 0 - Int32.ofInt a) = Int32.ofInt (if 0 ≤ a then a else -a) := by
    have e0 : (0 : Int32) ≤ Int32.ofInt a ↔ 0 ≤ a := i_le (a := 0) ⟨by omega, by omega⟩ ha
    by_cases h9 : 0 ≤ a
    · rw [if_pos (e0.mpr h9), if_pos h9]
    · rw [if_neg (fun h8 => h9 (e0.mp h8)), if_neg h9, Int32.ofInt_neg, Int32.zero_sub]
  rw [e1]
  exact h1
theorem g_lmin {a b : Int} {idx : Nat} (ha : R64 a) (hb : R64 b) (hw : okMa (yN y).cls idx Lib.MathLoose.min_long.x Lib.MathLoose.min_long.code 4 .long) (hroom : 1 ≤ yF y ∧ (st.map fun v => v.category).sum + 15 ≤ yL y) (hd : decode (yB y) pc = .ok (.invokestatic idx, 3)) (h : GW g y k n Φ (pc + 3) L (lg (min a b) :: st) M) : GW g y k n Φ pc L (lg b :: lg a :: st) M := by
  intro p e R s m args below meth c H locs cells slots ν ν0 n0 ls C hc hs hM hk hn hS hl
  have hw2 := C.2.2.2.2.1
  have h1 := h p e R s m args below meth c H locs cells slots ν ν0 n0 ls C hc hs hM hk hn hS hl
  have q1 : yF y ≤ R.frames := C.2.2.2.2.2.2.2.2.1
  have q2 : yL y ≤ R.locals := C.2.2.2.2.2.2.2.2.2.1
  refine va_mmin_long C.1 C.2.1 (C.2.2.1.trans hl.1.symm) C.2.2.2.1 (hw2 _ hw.1) (hw2 _ hw.2.1) (hw2 _ hw.2.2.1) (hw2 _ hw.2.2.2) (by omega) (by rw [sum_rV]; omega) (by omega) (by omega) hd ?_
  have e1 : (if Int64.ofInt b < Int64.ofInt a then Int64.ofInt b else Int64.ofInt a) = Int64.ofInt (min a b) := by
    by_cases h9 : b < a
    · rw [if_pos ((l_lt hb ha).mpr h9), Int.min_eq_right (by omega)]
    · rw [if_neg (fun h8 => h9 ((l_lt hb ha).mp h8)), Int.min_eq_left (by omega)]
  rw [e1]
  exact h1
end GJ9
