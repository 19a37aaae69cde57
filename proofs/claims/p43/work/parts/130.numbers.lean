/-! NUMBERS OF THE SCRIPT -/
theorem divN {c d : Nat} (h : c < 2 ^ 31) (hd : 1 ≤ d) (hd2 : d < 2 ^ 31) : nI c / nI d = nI (c / d) := by
  have hq : c / d ≤ c := Nat.div_le_self c d
  apply Int32.toInt_inj.mp
  rw [Int32.toInt_div, nI_toInt h, nI_toInt hd2, nI_toInt (by omega)]
  have e : (c : Int).tdiv (d : Int) = ((c / d : Nat) : Int) := by
    rw [Int.tdiv_eq_ediv_of_nonneg (by omega)]; rfl
  rw [e]
  clear e
  generalize c / d = q at hq
  exact Int.bmod_eq_of_le (by omega) (by omega)
theorem remN {c d : Nat} (h : c < 2 ^ 31) (hd : 1 ≤ d) (hd2 : d < 2 ^ 31) : nI c - nI c / nI d * nI d = nI (c % d) := by
  have hm := Nat.div_mul_le_self c d
  have he := Nat.div_add_mod c d
  rw [divN h hd hd2, pk_mul, pk_sub hm]
  congr 1
  rw [Nat.mul_comm] at he
  omega
/-- what is left of an int behind three places -/
def ush (x : Int32) : Nat := (x.toUInt32 >>> (Int32.toUInt32 (nI 3) &&& Int32.toUInt32 31)).toNat
theorem ush_lt (x : Int32) : ush x < 2 ^ 29 := by
  unfold ush
  rw [show Int32.toUInt32 (nI 3) &&& Int32.toUInt32 31 = 3 by decide]
  have h := x.toUInt32.toNat_lt
  rw [UInt32.toNat_shiftRight]
  rw [show (3 : UInt32).toNat % 32 = 3 by decide, Nat.shiftRight_eq_div_pow]
  have h' : x.toUInt32.toNat < 4294967296 := h
  omega
theorem ush_n (x : Int32) : (x.toUInt32 >>> (Int32.toUInt32 (nI 3) &&& Int32.toUInt32 31)).toInt32 = nI (ush x) := by
  unfold ush
  generalize x.toUInt32 >>> (Int32.toUInt32 (nI 3) &&& Int32.toUInt32 31) = u
  apply Int32.toBitVec_inj.mp
  show u.toBitVec = BitVec.ofNat 32 u.toBitVec.toNat
  rw [BitVec.ofNat_toNat, BitVec.setWidth_eq]
/-- a cell of the script, or what stands for it -/
def cl (g : XG) (k : Nat) : Int32 := if xL g ≤ k then nI (7919 * k + 12) else xX g k
def sm (g : XG) (k n : Nat) : Nat := ush (cl g k) % n
theorem sm_lt (g : XG) (k : Nat) {n : Nat} (h : 1 ≤ n) : sm g k n < n := Nat.mod_lt _ (by omega)
