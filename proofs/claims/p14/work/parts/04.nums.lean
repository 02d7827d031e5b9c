/-! numbers of the mini machine against the machine's -/
theorem w32_bmod (x : Int) : w32 x = x.bmod 4294967296 := by
  unfold w32
  rw [Int.bmod_def]
  split <;> omega
theorem w64_bmod (x : Int) : w64 x = x.bmod 18446744073709551616 := by
  unfold w64
  rw [Int.bmod_def]
  split <;> omega
theorem w32_in (x : Int) : in32 (w32 x) := by unfold w32 in32; omega
theorem w64_in (x : Int) : in64 (w64 x) := by unfold w64 in64; omega
theorem w32_id {x : Int} (h : in32 x) : w32 x = x := by unfold w32; unfold in32 at h; omega
theorem w64_id {x : Int} (h : in64 x) : w64 x = x := by unfold w64; unfold in64 at h; omega
theorem toI {x : Int} (h : in32 x) : (Int32.ofInt x).toInt = x := by
  rw [Int32.toInt_ofInt]
  have := w32_bmod x
  rw [w32_id h] at this
  exact this.symm
theorem toL {x : Int} (h : in64 x) : (Int64.ofInt x).toInt = x := by
  rw [Int64.toInt_ofInt]
  have := w64_bmod x
  rw [w64_id h] at this
  exact this.symm
theorem ofI_w (x : Int) : Int32.ofInt (w32 x) = Int32.ofInt x := by
  apply Int32.toInt_inj.mp
  rw [toI (w32_in x), Int32.toInt_ofInt, w32_bmod]
theorem ofL_w (x : Int) : Int64.ofInt (w64 x) = Int64.ofInt x := by
  apply Int64.toInt_inj.mp
  rw [toL (w64_in x), Int64.toInt_ofInt, w64_bmod]
theorem n_add (x y : Int) : Int32.ofInt x + Int32.ofInt y = Int32.ofInt (w32 (x + y)) := by rw [ofI_w, Int32.ofInt_add]
theorem n_sub (x y : Int) : Int32.ofInt x - Int32.ofInt y = Int32.ofInt (w32 (x - y)) := by rw [ofI_w, Int32.ofInt_sub]
theorem n_mul (x y : Int) : Int32.ofInt x * Int32.ofInt y = Int32.ofInt (w32 (x * y)) := by rw [ofI_w, Int32.ofInt_mul]
theorem n_neg (x : Int) : -Int32.ofInt x = Int32.ofInt (w32 (-x)) := by rw [ofI_w, Int32.ofInt_neg]
theorem m_add (x y : Int) : Int64.ofInt x + Int64.ofInt y = Int64.ofInt (w64 (x + y)) := by rw [ofL_w, Int64.ofInt_add]
theorem m_sub (x y : Int) : Int64.ofInt x - Int64.ofInt y = Int64.ofInt (w64 (x - y)) := by rw [ofL_w, Int64.ofInt_sub]
theorem m_mul (x y : Int) : Int64.ofInt x * Int64.ofInt y = Int64.ofInt (w64 (x * y)) := by rw [ofL_w, Int64.ofInt_mul]
theorem n_div {x y : Int} (hx : in32 x) (hy : in32 y) : Int32.ofInt x / Int32.ofInt y = Int32.ofInt (w32 (x.tdiv y)) := by
  apply Int32.toInt_inj.mp
  rw [Int32.toInt_div, toI hx, toI hy, toI (w32_in _), w32_bmod]
theorem m_div {x y : Int} (hx : in64 x) (hy : in64 y) : Int64.ofInt x / Int64.ofInt y = Int64.ofInt (w64 (x.tdiv y)) := by
  apply Int64.toInt_inj.mp
  rw [Int64.toInt_div, toL hx, toL hy, toL (w64_in _), w64_bmod]
theorem n_rem {x y : Int} (hx : in32 x) (hy : in32 y) : Int32.ofInt x - Int32.ofInt x / Int32.ofInt y * Int32.ofInt y = Int32.ofInt (x.tmod y) := by
  rw [n_div hx hy, ofI_w, ← Int32.ofInt_mul, ← Int32.ofInt_sub]
  congr 1
  have := Int.tmod_add_mul_tdiv x y
  rw [Int.mul_comm] at this
  omega
theorem tmod_in {x y : Int} (hx : in32 x) : in32 (x.tmod y) := by
  unfold in32 at *
  have h2 : (x.tmod y).natAbs ≤ x.natAbs := by
    rw [Int.natAbs_tmod]
    exact Nat.mod_le _ _
  rcases Int.le_total 0 x with h | h
  · have h1 := Int.tmod_nonneg y h
    omega
  · have h3 : x.tmod y ≤ 0 := by
      have := Int.tmod_nonneg y (show 0 ≤ -x by omega)
      rw [Int.neg_tmod] at this
      omega
    omega
theorem n_ne0 {y : Int} (hy : in32 y) (h : ¬ y = 0) : ¬ Int32.ofInt y = 0 := fun e => h (by
  have := congrArg Int32.toInt e
  rw [toI hy] at this
  exact this)
theorem m_ne0 {y : Int} (hy : in64 y) (h : ¬ y = 0) : ¬ Int64.ofInt y = 0 := fun e => h (by
  have := congrArg Int64.toInt e
  rw [toL hy] at this
  exact this)
theorem n_eq {x y : Int} (hx : in32 x) (hy : in32 y) : Int32.ofInt x = Int32.ofInt y ↔ x = y := by
  rw [← Int32.toInt_inj, toI hx, toI hy]
theorem n_lt {x y : Int} (hx : in32 x) (hy : in32 y) : Int32.ofInt x < Int32.ofInt y ↔ x < y := by
  rw [Int32.lt_iff_toInt_lt, toI hx, toI hy]
theorem n_le {x y : Int} (hx : in32 x) (hy : in32 y) : Int32.ofInt x ≤ Int32.ofInt y ↔ x ≤ y := by
  rw [Int32.le_iff_toInt_le, toI hx, toI hy]
theorem m_eq {x y : Int} (hx : in64 x) (hy : in64 y) : Int64.ofInt x = Int64.ofInt y ↔ x = y := by
  rw [← Int64.toInt_inj, toL hx, toL hy]
theorem m_lt {x y : Int} (hx : in64 x) (hy : in64 y) : Int64.ofInt x < Int64.ofInt y ↔ x < y := by
  rw [Int64.lt_iff_toInt_lt, toL hx, toL hy]
theorem z_bv (x : Int) : (Int32.ofInt x).toBitVec.toNat = z32 x := by
  rw [Int32.toBitVec_ofInt, BitVec.toNat_ofInt]
  rfl
theorem z_lt (x : Int) : z32 x < 4294967296 := by unfold z32; omega
theorem z_of {n : Nat} (h : n < 4294967296) : z32 (n : Int) = n := by unfold z32; omega
theorem n_bv {v : Int32} {n : Nat} (h : v.toBitVec.toNat = n) : v = Int32.ofInt (w32 (n : Int)) := by
  apply Int32.toBitVec_inj.mp
  apply BitVec.eq_of_toNat_eq
  rw [ofI_w, z_bv, h]
  exact (z_of (by rw [← h]; exact v.toBitVec.isLt)).symm
theorem n_and (x y : Int) : Int32.ofInt x &&& Int32.ofInt y = Int32.ofInt (i_and x y) := by
  apply n_bv
  rw [Int32.toBitVec_and, BitVec.toNat_and, z_bv, z_bv]
theorem n_or (x y : Int) : Int32.ofInt x ||| Int32.ofInt y = Int32.ofInt (i_or x y) := by
  apply n_bv
  rw [Int32.toBitVec_or, BitVec.toNat_or, z_bv, z_bv]
theorem n_xor (x y : Int) : Int32.ofInt x ^^^ Int32.ofInt y = Int32.ofInt (i_xor x y) := by
  apply n_bv
  rw [Int32.toBitVec_xor, BitVec.toNat_xor, z_bv, z_bv]
theorem n_sh31 (y : Int) : ((Int32.ofInt y &&& 31).toBitVec.smod 32).toNat = (y % 32).toNat := by
  have h : Int32.ofInt y &&& 31 = nI ((Int32.ofInt y).toBitVec.toNat % 2 ^ 5) := pk_and (Int32.ofInt y) 5 (by decide)
  have hz : (Int32.ofInt y).toBitVec.toNat % 2 ^ 5 = (y % 32).toNat := by
    rw [z_bv]
    unfold z32
    omega
  rw [h, hz]
  have hl : (y % 32).toNat < 32 := by omega
  generalize (y % 32).toNat = n at hl ⊢
  have key : ∀ n, n < 32 → ((nI n).toBitVec.smod 32).toNat = n := by decide +kernel
  exact key n hl
theorem n_ush31 (y : Int) : (((Int32.ofInt y).toUInt32 &&& Int32.toUInt32 31).toBitVec % 32).toNat = (y % 32).toNat := by
  have e : ((Int32.ofInt y).toUInt32 &&& Int32.toUInt32 31).toBitVec.toNat = z32 y % 32 := by
    show ((Int32.ofInt y).toBitVec &&& (31#32)).toNat = _
    rw [BitVec.toNat_and, z_bv]
    exact Nat.and_two_pow_sub_one_eq_mod (z32 y) 5
  rw [BitVec.toNat_umod, e]
  show z32 y % 32 % 32 = _
  unfold z32
  omega
theorem n_shl (x y : Int) : Int32.ofInt x <<< (Int32.ofInt y &&& 31) = Int32.ofInt (i_shl x y) := by
  unfold i_shl
  rw [ofI_w]
  apply Int32.toBitVec_inj.mp
  apply BitVec.eq_of_toNat_eq
  rw [pk_shl _ _ _ (n_sh31 y), z_bv, z_bv]
  unfold z32
  generalize (y % 32).toNat = k
  have hp : (0 : Int) < 2 ^ k := Int.pow_pos (by decide)
  have e : ((x % 4294967296).toNat * 2 ^ k : Nat) % 4294967296 = ((x % 4294967296) * 2 ^ k % 4294967296).toNat := by
    have h0 : 0 ≤ x % 4294967296 := Int.emod_nonneg _ (by decide)
    have e1 : (((x % 4294967296).toNat * 2 ^ k : Nat) : Int) = (x % 4294967296) * 2 ^ k := by
      rw [Int.natCast_mul, Int.toNat_of_nonneg h0, Int.natCast_pow]
      rfl
    rw [← e1]
    omega
  rw [show (2 ^ 32 : Nat) = 4294967296 from rfl, e, Int.mul_emod (x % 4294967296), Int.emod_emod, ← Int.mul_emod]
theorem n_shr {x : Int} (hx : in32 x) (y : Int) : Int32.ofInt x >>> (Int32.ofInt y &&& 31) = Int32.ofInt (i_shr x y) := by
  have hk := n_sh31 y
  have h := pk_shr (Int32.ofInt x) (Int32.ofInt y &&& 31) _ hk
  rw [toI hx, Int.shiftRight_eq_div_pow] at h
  apply Int32.toInt_inj.mp
  rw [h]
  unfold i_shr
  rw [toI]
  · rw [Int.natCast_pow]
    rfl
  · unfold in32 at *
    have hp : (0 : Int) < 2 ^ (y % 32).toNat := Int.pow_pos (by decide)
    generalize (2 : Int) ^ (y % 32).toNat = d at hp
    rcases (show x < 0 ∨ 0 ≤ x by omega) with h0 | h0
    · have h1 : x / d < 0 := Int.ediv_neg_of_neg_of_pos h0 hp
      have h2 : x ≤ x / d := (Int.le_ediv_iff_mul_le hp).mpr (by
        have := Int.mul_le_mul_of_nonpos_left (show x ≤ 0 by omega) (show (1 : Int) ≤ d by omega)
        omega)
      omega
    · have h1 : 0 ≤ x / d := Int.ediv_nonneg h0 (by omega)
      have h2 : x / d ≤ x := Int.ediv_le_self d h0
      omega
theorem n_ushr (x y : Int) : ((Int32.ofInt x).toUInt32 >>> ((Int32.ofInt y).toUInt32 &&& Int32.toUInt32 31)).toInt32 = Int32.ofInt (i_ushr x y) := by
  have h := pk_ushr (Int32.ofInt x) (Int32.ofInt y) _ (n_ush31 y)
  have h2 := n_bv h
  rw [h2, z_bv]
  unfold i_ushr z32
  congr 2
  have h0 : 0 ≤ x % 4294967296 := Int.emod_nonneg _ (by decide)
  rw [Int.natCast_ediv, Int.toNat_of_nonneg h0, Int.natCast_pow]
  rfl
theorem z_bvL (x : Int) : (Int64.ofInt x).toBitVec.toNat = z64 x := by
  rw [Int64.toBitVec_ofInt, BitVec.toNat_ofInt]
  rfl
theorem z_ofL {n : Nat} (h : n < 18446744073709551616) : z64 (n : Int) = n := by unfold z64; omega
theorem m_bv {v : Int64} {n : Nat} (h : v.toBitVec.toNat = n) : v = Int64.ofInt (w64 (n : Int)) := by
  apply Int64.toBitVec_inj.mp
  apply BitVec.eq_of_toNat_eq
  rw [ofL_w, z_bvL, h]
  exact (z_ofL (by rw [← h]; exact v.toBitVec.isLt)).symm
theorem m_and (x y : Int) : Int64.ofInt x &&& Int64.ofInt y = Int64.ofInt (l_and x y) := by
  apply m_bv
  rw [Int64.toBitVec_and, BitVec.toNat_and, z_bvL, z_bvL]
theorem m_or (x y : Int) : Int64.ofInt x ||| Int64.ofInt y = Int64.ofInt (l_or x y) := by
  apply m_bv
  rw [Int64.toBitVec_or, BitVec.toNat_or, z_bvL, z_bvL]
theorem n_i2l {x : Int} (h : in32 x) : (Int32.ofInt x).toInt64 = Int64.ofInt x := by
  apply Int64.toInt_inj.mp
  rw [Int32.toInt_toInt64, toI h, toL (by unfold in32 at h; unfold in64; omega)]
theorem n_l2i (x : Int) : (Int64.ofInt x).toInt32 = Int32.ofInt (w32 x) := by
  rw [ofI_w]
  apply Int32.toBitVec_inj.mp
  apply BitVec.eq_of_toNat_eq
  rw [z_bv, Int64.toBitVec_toInt32, BitVec.signExtend_eq_setWidth_of_le _ (by decide), BitVec.toNat_setWidth, z_bvL]
  unfold z32 z64
  omega
theorem n_i2b (x : Int) : (Int32.ofInt x).toInt8.toInt32 = Int32.ofInt (i_byt x) := by
  have hb : in32 (i_byt x) := by unfold in32 i_byt; omega
  apply Int32.toInt_inj.mp
  rw [Int8.toInt_toInt32, toI hb, Int32.toInt_toInt8, Int32.toInt_ofInt]
  unfold i_byt
  rw [show (Int32.size) = 4294967296 from rfl, Int.bmod_def, Int.bmod_def]
  split <;> split <;> omega
theorem n_i2c (x : Int) : ((Int32.ofInt x).toUInt32 % 65536).toInt32 = Int32.ofInt (i_chr x) := by
  rw [pk_char, z_bv]
  unfold i_chr z32 nI
  rw [show x % 65536 = (((x % 4294967296).toNat % 2 ^ 16 : Nat) : Int) by omega]
  rfl
theorem nI_of32 {x : Int} (h : 0 ≤ x) : Int32.ofInt x = nI x.toNat := by
  unfold nI
  rw [show x = ((x.toNat : Nat) : Int) by omega]
  rfl
theorem cl_of {x : Int} (h0 : 0 ≤ x) (h : in32 x) : (Int32.ofInt x).toNatClampNeg = x.toNat := by
  show (Int32.ofInt x).toInt.toNat = _
  rw [toI h]
theorem vp_in_of' {x : Int} {n : Nat} (h0 : 0 ≤ x) (h : in32 x) (hn : x.toNat < n) : vp_in (Int32.ofInt x) n := by
  rw [vp_in_iff, toI h]
  omega
