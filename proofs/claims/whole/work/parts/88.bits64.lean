/-! longs as sets of numbers below 64 -/
def lb (x : Int64) (i : Nat) : Bool := x.toBitVec.getLsbD i
theorem lb_ext {x y : Int64} (h : ∀ i, i < 64 → lb x i = lb y i) : x = y := Int64.toBitVec_inj.mp (BitVec.eq_of_getLsbD_eq (fun i hi => h i hi))
theorem lb_big {x : Int64} {i : Nat} (h : 64 ≤ i) : lb x i = false := BitVec.getLsbD_of_ge _ _ h
theorem lb_or (x y : Int64) (i : Nat) : lb (x ||| y) i = (lb x i || lb y i) := by unfold lb; rw [Int64.toBitVec_or, BitVec.getLsbD_or]
theorem lb_and (x y : Int64) (i : Nat) : lb (x &&& y) i = (lb x i && lb y i) := by unfold lb; rw [Int64.toBitVec_and, BitVec.getLsbD_and]
theorem lb_xor (x y : Int64) (i : Nat) : lb (x ^^^ y) i = (lb x i ^^ lb y i) := by unfold lb; rw [Int64.toBitVec_xor, BitVec.getLsbD_xor]
theorem lb_0 (i : Nat) : lb 0 i = false := by
  show (0#64).getLsbD i = false
  simp
theorem lb_1 (i : Nat) : lb 1 i = decide (i = 0) := by
  show (1#64).getLsbD i = _
  rw [BitVec.getLsbD_one]
  simp
theorem lb_m1 : ∀ i, i < 64 → lb (-1) i = true := by decide +kernel
theorem lb_m2 : ∀ i, i < 64 → lb (-2) i = decide (i ≠ 0) := by decide +kernel
theorem lb_not {x : Int64} {i : Nat} (h : i < 64) : lb (x ^^^ (-1)) i = !lb x i := by rw [lb_xor, lb_m1 i h]; simp
theorem s_l64 : ∀ n, n < 64 → (((nI n).toInt64 &&& 63).toBitVec.smod 64).toNat = n := by decide +kernel
theorem lb_shl (n : Nat) (hn : n < 64) (x : Int64) {i : Nat} (hi : i < 64) : lb (jlshl x (nI n)) i = (decide (n ≤ i) && lb x (i - n)) := by
  unfold lb
  show (x <<< ((nI n).toInt64 &&& 63)).toBitVec.getLsbD i = _
  rw [Int64.toBitVec_shiftLeft]
  show (x.toBitVec <<< (((nI n).toInt64 &&& 63).toBitVec.smod 64).toNat).getLsbD i = _
  rw [s_l64 n hn, BitVec.getLsbD_shiftLeft]
  rcases Nat.lt_or_ge i n with h | h
  · simp [h, Nat.not_le.mpr h]
  · simp [hi, h, Nat.not_lt.mpr h]
/-- one bit alone -/
theorem lb_bit (n : Nat) (hn : n < 64) (i : Nat) : lb (jlshl 1 (nI n)) i = decide (i = n) := by
  by_cases hi : i < 64
  · rw [lb_shl n hn 1 hi, lb_1]
    by_cases h : i = n
    · subst h; simp
    · by_cases h2 : n ≤ i
      · simp [h, h2]; omega
      · simp [h, h2]
  · rw [lb_big (by omega)]
    have : i ≠ n := by omega
    simp [this]
theorem lb_ushr1 (x : Int64) {p : Nat} (hp : p < 64) : (jlushr x (nI p) &&& 1) = 0 ↔ lb x p = false := by
  unfold jlushr lb
  rw [wb_cu p hp]
  exact ts_bit hp (by rw [UInt64.toNat_ofNat_of_lt']; show p < 2 ^ 64; omega)
theorem lb_sshr (n : Nat) (hn : n < 64) (x : Int64) {i : Nat} (hi : i < 64) : lb (jlshr x (nI n)) i = if n + i < 64 then lb x (n + i) else lb x 63 := by
  unfold lb
  show (x >>> ((nI n).toInt64 &&& 63)).toBitVec.getLsbD i = _
  rw [Int64.toBitVec_shiftRight]
  show (x.toBitVec.sshiftRight (((nI n).toInt64 &&& 63).toBitVec.smod 64).toNat).getLsbD i = _
  rw [s_l64 n hn, BitVec.getLsbD_sshiftRight, BitVec.msb_eq_getLsbD_last]
  simp [hi]
theorem lb_sshr1 (x : Int64) {p : Nat} (hp : p < 64) : (jlshr x (nI p) &&& 1) = 1 ↔ lb x p = true := by
  have e : ∀ i, i < 64 → lb (jlshr x (nI p) &&& 1) i = (decide (i = 0) && lb x p) := by
    intro i hi
    rw [lb_and, lb_1, lb_sshr p hp x hi]
    by_cases h : i = 0
    · subst h; simp [hp]
    · simp [h]
  constructor
  · intro h
    have := e 0 (by omega)
    rw [h, lb_1] at this
    simpa using this.symm
  · intro h
    apply lb_ext
    intro i hi
    rw [e i hi, h, lb_1]
    simp
theorem lg_cmp0 (x y : Int64) : lg_cmp x y = 0 ↔ x = y := by
  unfold lg_cmp
  by_cases h : x = y
  · subst h
    have : ¬ x > x := Int64.lt_irrefl
    simp [this]
  · by_cases h2 : x > y
    · simp [h, h2]
    · simp [h, h2]
theorem and_ne0 {x y : Int64} : ¬ (x &&& y) = 0 ↔ ∃ i, i < 64 ∧ lb x i = true ∧ lb y i = true := by
  constructor
  · intro h
    refine Classical.byContradiction fun q => h (lb_ext fun i hi => ?_)
    rw [lb_and, lb_0]
    cases h1 : lb x i with
    | false => simp
    | true =>
      cases h2 : lb y i with
      | false => simp
      | true => exact absurd ⟨i, hi, h1, h2⟩ q
  · rintro ⟨i, hi, h1, h2⟩ q
    have : lb (x &&& y) i = true := by rw [lb_and, h1, h2]; rfl
    rw [q, lb_0] at this
    cases this
