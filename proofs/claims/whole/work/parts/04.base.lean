/-! MY ROWS 3: numbers of indices, sizes of floats -/
section GBase
theorem n_add {x y : Int32} {a b : Nat} (hx : x = nI a) (hy : y = nI b) : x + y = nI (a + b) := by rw [hx, hy, nI_add]
theorem n_mul {x y : Int32} {a b : Nat} (hx : x = nI a) (hy : y = nI b) : x * y = nI (a * b) := by rw [hx, hy, pk_mul]
theorem n_sub {x y : Int32} {a b : Nat} (hx : x = nI a) (hy : y = nI b) (h : b ≤ a) : x - y = nI (a - b) := by rw [hx, hy, pk_sub h]
theorem n_rem {x y : Int32} {a b : Nat} (hx : x = nI a) (hy : y = nI b) (h0 : 0 < b) (ha : a < 2 ^ 31) (hb : b < 2 ^ 31) : x - x / y * y = nI (a % b) := by rw [hx, hy, pk_rem ha h0 hb]
theorem n_div {x y : Int32} {a b : Nat} (hx : x = nI a) (hy : y = nI b) (h0 : 0 < b) (ha : a < 2 ^ 31) (hb : b < 2 ^ 31) : x / y = nI (a / b) := by rw [hx, hy, pk_div ha h0 hb]
theorem n_inc1 {x : Int32} {a : Nat} (hx : x = nI a) : x + Int32.ofInt 1 = nI (a + 1) := by
  rw [hx]
  exact nI_1 a
theorem n_inc7 {x : Int32} {a : Nat} (hx : x = nI a) : x + Int32.ofInt 7 = nI (a + 7) := by
  rw [hx]
  exact nI_add a 7
def b2i (b : Bool) : Int32 := if b = true then 1 else 0
theorem g_nb (b : Bool) : narrow .boolean (.int (b2i b)) = .int (b2i b) := by cases b <;> rfl
/-- the size of a float, by its biased exponent -/
def g_mg (K : Nat) (x : UInt32) : Prop := x.toNat % 2 ^ 31 < K * 2 ^ 23
theorem g_mgE {K : Nat} {x y : UInt32} (e : x = y) (h : g_mg K y) : g_mg K x := by rw [e]; exact h
theorem g_mgW {K K' : Nat} {x : UInt32} (h : g_mg K x) (hk : K ≤ K') : g_mg K' x := Nat.lt_of_lt_of_le h (Nat.mul_le_mul_right _ hk)
theorem g_nn {K : Nat} {x : UInt32} (h : g_mg K x) (hk : K ≤ 255) : vf_n32 x := by
  have h1 : (x &&& 0x7fffffff).toNat = x.toNat % 2 ^ 31 := by
    rw [UInt32.toNat_and]
    exact Nat.and_two_pow_sub_one_eq_mod x.toNat 31
  unfold vf_n32
  rw [UInt32.le_iff_toNat_le, h1]
  have h2 : (0x7f800000 : UInt32).toNat = 255 * 2 ^ 23 := by decide
  rw [h2]
  exact Nat.le_of_lt (Nat.lt_of_lt_of_le h (Nat.mul_le_mul_right _ hk))
theorem g_mgadd {Ka Kb K : Nat} {x y : UInt32} (hx : g_mg Ka x) (hy : g_mg Kb y) (ha : Ka ≤ K) (hb : Kb ≤ K) (hK : K ≤ 255) : g_mg (K + 2) (FP.fadd x y) := FP.Core.fadd_mag (g_mgW hx ha) (g_mgW hy hb) hK
theorem g_mgsub {Ka Kb K : Nat} {x y : UInt32} (hx : g_mg Ka x) (hy : g_mg Kb y) (ha : Ka ≤ K) (hb : Kb ≤ K) (hK : K ≤ 255) : g_mg (K + 2) (FP.fsub x y) := FP.Core.fsub_mag (g_mgW hx ha) (g_mgW hy hb) hK
theorem g_mgmul {Ka Kb K : Nat} {x y : UInt32} (hx : g_mg Ka x) (hy : g_mg Kb y) (hab : Ka ≤ 255 ∧ Kb ≤ 255) (hK : Ka + Kb - 129 + 3 ≤ K) : g_mg K (FP.fmul x y) := g_mgW (FP.Core.fmul_mag hx hy hab.1 hab.2) hK
theorem g_mgdiv {Ka L K : Nat} {x y : UInt32} (hx : g_mg Ka x) (hy : L * 2 ^ 23 ≤ y.toNat % 2 ^ 31) (hy2 : y.toNat % 2 ^ 31 < 255 * 2 ^ 23) (ha : Ka ≤ 255 ∧ 1 ≤ L) (hK : Ka + (149 - 23 - 1) - L + 3 ≤ K) : g_mg K (FP.fdiv x y) := g_mgW (FP.Core.fdiv_mag hx hy hy2 ha.1 ha.2) hK
theorem g_mgi (v : Int32) : g_mg 160 (FP.i2f v) := FP.Core.i2f_mag v
theorem g_mgis {v : Int32} (j : Nat) (h : v.toInt.natAbs ≤ 2 ^ j) : g_mg (j + 128) (FP.i2f v) := by
  have h2 : (FP.i2f v).toNat % 2 ^ 31 ≤ (j + 127) * 2 ^ 23 := FP.Core.fromInt_mag32 (FP.Core.toNat_i2f v) (j := j) (K := j + 127) h (by omega) (by omega)
  unfold g_mg
  omega
theorem g_mgneg {K : Nat} {x : UInt32} (h : g_mg K x) : g_mg K (FP.fneg x) := by
  unfold g_mg FP.fneg at *
  rw [UInt32.toNat_xor]
  have h1 : (x.toNat ^^^ (0x80000000 : UInt32).toNat) % 2 ^ 31 = x.toNat % 2 ^ 31 := by
    rw [Nat.xor_mod_two_pow]
    have : (0x80000000 : UInt32).toNat % 2 ^ 31 = 0 := by decide
    rw [this, Nat.xor_zero]
  rw [h1]
  exact h
theorem g_mgk {K : Nat} {x : UInt32} (h : x.toNat % 2 ^ 31 < K * 2 ^ 23) : g_mg K x := h
theorem g_mgc0 : g_mg 1 FP.fconst0 := by unfold g_mg; decide
theorem g_mgc1 : g_mg 128 FP.fconst1 := by unfold g_mg; decide
theorem g_mgc2 : g_mg 129 FP.fconst2 := by unfold g_mg; decide
/-- x < y and x > y of floats -/
def flt (x y : UInt32) : Bool := decide (FP.fcmp x y = some .lt)
def fgt (x y : UInt32) : Bool := decide (FP.fcmp x y = some .gt)
theorem g_cgl {x y : UInt32} (h : 0 ≤ Op.cmpValue (FP.fcmp x y) CmpOp.g) : flt x y = false := by
  refine decide_eq_false (fun e => ?_)
  rw [e] at h
  exact absurd h (by decide)
theorem g_cgt {x y : UInt32} (h : ¬ 0 ≤ Op.cmpValue (FP.fcmp x y) CmpOp.g) : flt x y = true := by
  refine decide_eq_true ?_
  revert h
  cases FP.fcmp x y with
  | none => exact fun h => absurd (by decide) h
  | some o => cases o <;> first | (intro _; rfl) | exact fun h => absurd (by decide) h
theorem g_clg {x y : UInt32} (h : Op.cmpValue (FP.fcmp x y) CmpOp.l ≤ 0) : fgt x y = false := by
  refine decide_eq_false (fun e => ?_)
  rw [e] at h
  exact absurd h (by decide)
theorem g_clt {x y : UInt32} (h : ¬ Op.cmpValue (FP.fcmp x y) CmpOp.l ≤ 0) : fgt x y = true := by
  refine decide_eq_true ?_
  revert h
  cases FP.fcmp x y with
  | none => exact fun h => absurd (by decide) h
  | some o => cases o <;> first | (intro _; rfl) | exact fun h => absurd (by decide) h
theorem flt_ngt {x y : UInt32} (h : flt x y = true) : fgt x y = false := by
  have h1 := of_decide_eq_true h
  refine decide_eq_false ?_
  rw [h1]
  simp
end GBase
