/-! MY ROWS 5: the bits of a float out of halvings and doublings -/
section GBits
/-- the size of a float, in units of the least number -/
def uv (r : UInt32) : Nat := FP.Core.unitsOf FP.Core.b32 (r.toNat % 2 ^ 31)
/-- a number that isn't below +0 -/
def nn0 (r : UInt32) : Prop := r.toNat < 255 * 2 ^ 23
theorem nn0_mg {r : UInt32} (h : nn0 r) : g_mg 255 r := by
  unfold nn0 at h
  unfold g_mg
  omega
theorem nn0_val {r : UInt32} (h : nn0 r) : FP.Core.val32 r ≠ .nan := mg_nn (nn0_mg h) (by decide)
theorem nn0_fin {r : UInt32} (h : nn0 r) : ∃ c q, FP.Core.val32 r = .fin false c q ∧ uv r = c * 2 ^ (q - FP.Core.b32.qmin).toNat := by
  obtain ⟨s, c, q, e⟩ := FP.Core.fin_of_lt32 (nn0_mg h) (by decide)
  have hs := (FP.Core.sign_bits32 (a := r) (s := s) (Or.inl ⟨c, q, e⟩))
  have hf : s = false := by
    cases s with
    | false => rfl
    | true =>
      have := hs.mp rfl
      unfold nn0 at h
      omega
  subst hf
  refine ⟨c, q, e, ?_⟩
  have h1 := FP.Core.zmag_bits32 (nn0_val h)
  rw [e] at h1
  exact h1.symm
/-- a float whose datum is known -/
theorem of_fin {r : UInt32} {c : Nat} {q : Int} (e : FP.Core.val32 r = .fin false c q) : nn0 r ∧ uv r = c * 2 ^ (q - FP.Core.b32.qmin).toNat := by
  have hs := (FP.Core.sign_bits32 (a := r) (s := false) (Or.inl ⟨c, q, e⟩))
  have hn : FP.Core.val32 r ≠ .nan := by rw [e]; exact FP.Core.Datum.noConfusion
  have hm : r.toNat % 2 ^ 31 < 255 * 2 ^ 23 := by
    have := (FP.Core.fin_bits32 r).mp ⟨false, c, q, e⟩
    omega
  refine ⟨?_, ?_⟩
  · unfold nn0
    have : ¬ 2 ^ 31 ≤ r.toNat := fun z => absurd (hs.mpr z) (by decide)
    omega
  · have h1 := FP.Core.zmag_bits32 hn
    rw [e] at h1
    exact h1.symm
theorem uv_bits {r : UInt32} (h : nn0 r) : uv r = if r.toNat < 2 ^ 23 then r.toNat else (2 ^ 23 + r.toNat % 2 ^ 23) * 2 ^ (r.toNat / 2 ^ 23 - 1) := by
  unfold nn0 at h
  unfold uv
  rw [Nat.mod_eq_of_lt (by omega)]
  unfold FP.Core.unitsOf
  rw [FP.Core.tails_b32]
theorem lt_uv {x y : UInt32} (hx : nn0 x) (hy : nn0 y) : FP.fcmp x y = some .lt ↔ uv x < uv y := by
  have hx' := nn0_val hx
  have hy' := nn0_val hy
  obtain ⟨c, q, e, u⟩ := nn0_fin hx
  obtain ⟨d, t, e2, u2⟩ := nn0_fin hy
  have z1 : FP.Core.zval FP.Core.b32 (FP.Core.val32 x) = (uv x : Int) := by rw [e, u]; rfl
  have z2 : FP.Core.zval FP.Core.b32 (FP.Core.val32 y) = (uv y : Int) := by rw [e2, u2]; rfl
  have := FP.Core.fcmp_lt (a := x) (b := y)
  rw [z1, z2] at this
  constructor
  · intro h
    have := (this.mp h).2.2
    omega
  · intro h
    exact this.mpr ⟨hx', hy', by omega⟩
theorem gt_uv {x y : UInt32} (hx : nn0 x) (hy : nn0 y) : FP.fcmp x y = some .gt ↔ uv y < uv x := by
  have hx' := nn0_val hx
  have hy' := nn0_val hy
  obtain ⟨c, q, e, u⟩ := nn0_fin hx
  obtain ⟨d, t, e2, u2⟩ := nn0_fin hy
  have z1 : FP.Core.zval FP.Core.b32 (FP.Core.val32 x) = (uv x : Int) := by rw [e, u]; rfl
  have z2 : FP.Core.zval FP.Core.b32 (FP.Core.val32 y) = (uv y : Int) := by rw [e2, u2]; rfl
  have := FP.Core.fcmp_gt (a := x) (b := y)
  rw [z1, z2] at this
  constructor
  · intro h
    have := (this.mp h).2.2
    omega
  · intro h
    exact this.mpr ⟨hx', hy', by omega⟩
theorem val_2 : FP.Core.val32 FP.fconst2 = .fin false (2 ^ 23) (-22) := by decide +kernel
theorem val_k : FP.Core.val32 1258291200 = .fin false (2 ^ 23) 0 := by decide +kernel
theorem qm : FP.Core.b32.qmin = -149 := by decide
theorem qx : FP.Core.b32.qmax = 104 := by decide
theorem pw24 : 2 ^ FP.Core.b32.p = 16777216 := by decide
theorem tl : FP.Core.b32.tails = 8388608 := by decide
/-- a product by a power of two that the format holds exactly -/
theorem mul_exact {r k : UInt32} {c c' : Nat} {q q' w : Int} (er : FP.Core.val32 r = .fin false c q) (ek : FP.Core.val32 k = .fin false (2 ^ 23) w) (hf : FP.Core.fits FP.Core.b32 (.fin false c' q')) (h : c * 2 ^ 23 * 2 ^ (q + w - q').toNat = c' * 2 ^ (q' - (q + w)).toNat) : FP.Core.val32 (FP.fmul r k) = .fin false c' q' := by
  have e := FP.Core.val32_fmul r k
  rw [er, ek] at e
  show FP.Core.val32 (FP.Core.fmul r k) = _
  rw [e]
  show FP.Core.roundRatio FP.Core.b32 false (c * 2 ^ 23) 1 (q + w) = _
  exact FP.Core.roundRatio_exact FP.Core.good_b32 (by decide) hf (by rw [h, Nat.mul_one])
theorem dbl {r : UInt32} (h : nn0 r) (hu : uv r < 2 ^ 149) : nn0 (FP.fmul r FP.fconst2) ∧ uv (FP.fmul r FP.fconst2) = 2 * uv r := by
  obtain ⟨c, q, e, u⟩ := nn0_fin h
  have hfit := FP.Core.val32_fits r
  rw [e] at hfit
  obtain ⟨f1, f2, f3, f4⟩ := hfit
  rw [pw24] at f1
  rw [qm] at f2 f4 u
  rw [qx] at f3
  rw [tl] at f4
  by_cases hc : c < 8388608
  · have hq : q = -149 := f4.resolve_right (by omega)
    subst hq
    have v := mul_exact (c' := 2 * c) (q' := -149) e val_2 ⟨by rw [pw24]; omega, by rw [qm]; omega, by rw [qx]; omega, Or.inl (by rw [qm])⟩ (by
      show c * 2 ^ 23 * 2 ^ 0 = 2 * c * 2 ^ 22
      omega)
    obtain ⟨g1, g2⟩ := of_fin v
    refine ⟨g1, ?_⟩
    rw [g2, u, qm]
    show 2 * c * 2 ^ 0 = 2 * (c * 2 ^ 0)
    omega
  · have hlt : q < 100 := by
      rcases (show q < 100 ∨ 100 ≤ q by omega) with z | z
      · exact z
      · exfalso
        rw [u] at hu
        have h1 : 2 ^ 249 ≤ 2 ^ (q - -149).toNat := Nat.pow_le_pow_right (by decide) (by omega)
        have h2 : 1 * 2 ^ 249 ≤ c * 2 ^ (q - -149).toNat := Nat.mul_le_mul (by omega) h1
        have h3 : (2 : Nat) ^ 149 < 1 * 2 ^ 249 := by decide
        exact absurd (Nat.lt_of_lt_of_le h3 h2) (Nat.not_lt.mpr (Nat.le_of_lt hu))
    have v := mul_exact (c' := c) (q' := q + 1) e val_2 ⟨by rw [pw24]; omega, by rw [qm]; omega, by rw [qx]; omega, Or.inr (by rw [tl]; omega)⟩ (by
      have e1 : (q + -22 - (q + 1)).toNat = 0 := by omega
      have e2 : (q + 1 - (q + -22)).toNat = 23 := by omega
      rw [e1, e2, Nat.pow_zero, Nat.mul_one])
    obtain ⟨g1, g2⟩ := of_fin v
    refine ⟨g1, ?_⟩
    rw [g2, u, qm]
    have e3 : (q + 1 - -149).toNat = (q - -149).toNat + 1 := by omega
    rw [e3, Nat.pow_succ]
    generalize 2 ^ (q - -149).toNat = z
    rw [Nat.mul_comm z 2, ← Nat.mul_assoc, Nat.mul_comm c 2, Nat.mul_assoc]
theorem hlf {r : UInt32} (h : nn0 r) (hu : 2 ^ 150 ≤ uv r) : nn0 (FP.fdiv r FP.fconst2) ∧ 2 * uv (FP.fdiv r FP.fconst2) = uv r := by
  obtain ⟨c, q, e, u⟩ := nn0_fin h
  have hfit := FP.Core.val32_fits r
  rw [e] at hfit
  obtain ⟨f1, f2, f3, f4⟩ := hfit
  rw [pw24] at f1
  rw [qm] at f2 f4 u
  rw [qx] at f3
  rw [tl] at f4
  have hq : -149 < q := by
    rcases (show -149 < q ∨ q ≤ -149 by omega) with z | z
    · exact z
    · exfalso
      have : q = -149 := by omega
      subst this
      have e0 : ((-149 : Int) - -149).toNat = 0 := by decide
      rw [e0, Nat.pow_zero, Nat.mul_one] at u
      have h3 : 16777216 < 2 ^ 150 := by decide
      omega
  have hc : 8388608 ≤ c := f4.resolve_left (by omega)
  have v : FP.Core.val32 (FP.fdiv r FP.fconst2) = .fin false c (q - 1) := by
    have e1 := FP.Core.val32_fdiv r FP.fconst2
    rw [e, val_2] at e1
    show FP.Core.val32 (FP.Core.fdiv r FP.fconst2) = _
    rw [e1]
    have h0 : ¬ (2 ^ 23 : Nat) = 0 := by decide
    rw [show FP.Core.quotient FP.Core.b32 (.fin false c q) (.fin false (2 ^ 23) (-22)) = (if (2 ^ 23 : Nat) = 0 then (if c = 0 then FP.Core.Datum.nan else .inf (false != false)) else FP.Core.roundRatio FP.Core.b32 (false != false) c (2 ^ 23) (q - (-22))) from rfl, if_neg h0]
    show FP.Core.roundRatio FP.Core.b32 false c (2 ^ 23) (q - -22) = _
    refine FP.Core.roundRatio_exact FP.Core.good_b32 (by decide) ⟨by rw [pw24]; omega, by rw [qm]; omega, by rw [qx]; omega, Or.inr (by rw [tl]; omega)⟩ ?_
    have e1 : (q - -22 - (q - 1)).toNat = 23 := by omega
    have e2 : (q - 1 - (q - -22)).toNat = 0 := by omega
    rw [e1, e2, Nat.pow_zero, Nat.mul_one]
  obtain ⟨g1, g2⟩ := of_fin v
  refine ⟨g1, ?_⟩
  rw [g2, u, qm]
  have e3 : (q - -149).toNat = (q - 1 - -149).toNat + 1 := by omega
  rw [e3, Nat.pow_succ]
  generalize 2 ^ (q - 1 - -149).toNat = z
  rw [Nat.mul_comm z 2, ← Nat.mul_assoc 2 c z, ← Nat.mul_assoc c 2 z, Nat.mul_comm 2 c]
theorem shf {r : UInt32} (h : nn0 r) (hu : uv r < 2 ^ 150) (h2 : uv r = 0 ∨ 2 ^ 23 ≤ uv r) : nn0 (FP.fmul r 1258291200) ∧ uv (FP.fmul r 1258291200) = uv r * 2 ^ 23 := by
  obtain ⟨c, q, e, u⟩ := nn0_fin h
  have hfit := FP.Core.val32_fits r
  rw [e] at hfit
  obtain ⟨f1, f2, f3, f4⟩ := hfit
  rw [pw24] at f1
  rw [qm] at f2 f4 u
  rw [qx] at f3
  rw [tl] at f4
  by_cases hc : c < 8388608
  · have hq : q = -149 := f4.resolve_right (by omega)
    subst hq
    have e0 : ((-149 : Int) - -149).toNat = 0 := by decide
    rw [e0, Nat.pow_zero, Nat.mul_one] at u
    have hc0 : c = 0 := by
      have h3 : (2 : Nat) ^ 23 = 8388608 := by decide
      omega
    subst hc0
    have v := mul_exact (c' := 0) (q' := -149) e val_k ⟨by rw [pw24]; omega, by rw [qm]; omega, by rw [qx]; omega, Or.inl (by rw [qm])⟩ (by omega)
    obtain ⟨g1, g2⟩ := of_fin v
    refine ⟨g1, ?_⟩
    rw [g2, u]
    simp
  · have hlt : q < 2 := by
      rcases (show q < 2 ∨ 2 ≤ q by omega) with z | z
      · exact z
      · exfalso
        rw [u] at hu
        have h1 : 2 ^ 151 ≤ 2 ^ (q - -149).toNat := Nat.pow_le_pow_right (by decide) (by omega)
        have h2 : 1 * 2 ^ 151 ≤ c * 2 ^ (q - -149).toNat := Nat.mul_le_mul (by omega) h1
        have h3 : (2 : Nat) ^ 150 < 1 * 2 ^ 151 := by decide
        exact absurd (Nat.lt_of_lt_of_le h3 h2) (Nat.not_lt.mpr (Nat.le_of_lt hu))
    have v := mul_exact (c' := c) (q' := q + 23) e val_k ⟨by rw [pw24]; omega, by rw [qm]; omega, by rw [qx]; omega, Or.inr (by rw [tl]; omega)⟩ (by
      have e1 : (q + 0 - (q + 23)).toNat = 0 := by omega
      have e2 : (q + 23 - (q + 0)).toNat = 23 := by omega
      rw [e1, e2, Nat.pow_zero, Nat.mul_one])
    obtain ⟨g1, g2⟩ := of_fin v
    refine ⟨g1, ?_⟩
    rw [g2, u, qm]
    have e3 : (q + 23 - -149).toNat = (q - -149).toNat + 23 := by omega
    rw [e3, Nat.pow_add, Nat.mul_assoc]
theorem f2i_uv {r : UInt32} (h : nn0 r) (hu : uv r / 2 ^ 149 < 2 ^ 31) : FP.f2i r = nI (uv r / 2 ^ 149) := by
  obtain ⟨c, q, e, u⟩ := nn0_fin h
  have h1 := FP.Core.f2i_val (nn0_val h)
  have h2 : FP.Core.zmag FP.Core.b32 (FP.Core.val32 r) = uv r := by rw [e, u]; rfl
  have h3 : FP.Core.sgn (FP.Core.val32 r) = false := by rw [e]; rfl
  rw [h2, h3] at h1
  have h4 : FP.Core.one32 = 2 ^ 149 := rfl
  rw [h4] at h1
  apply Int32.toInt_inj.mp
  rw [nI_toInt hu]
  show (FP.Core.f2i r).toInt = _
  rw [h1]
  generalize uv r / 2 ^ 149 = m at *
  show max (-2 ^ 31 : Int) (min (2 ^ 31 - 1) ((m : Nat) : Int)) = m
  omega
theorem uv_c1 : uv FP.fconst1 = 2 ^ 149 := by decide +kernel
theorem uv_c2 : uv FP.fconst2 = 2 ^ 150 := by decide +kernel
theorem nn_c1 : nn0 FP.fconst1 := by unfold nn0; decide
theorem nn_c2 : nn0 FP.fconst2 := by unfold nn0; decide
theorem uv_X {X : UInt32} (h : nn0 X) : (X.toNat < 2 ^ 23 ∧ uv X = X.toNat) ∨ ∃ E M, 1 ≤ E ∧ M < 2 ^ 23 ∧ E < 255 ∧ X.toNat = E * 2 ^ 23 + M ∧ uv X = (2 ^ 23 + M) * 2 ^ (E - 1) := by
  have u := uv_bits h
  unfold nn0 at h
  by_cases c : X.toNat < 2 ^ 23
  · rw [if_pos c] at u
    exact Or.inl ⟨c, u⟩
  · rw [if_neg c] at u
    exact Or.inr ⟨X.toNat / 2 ^ 23, X.toNat % 2 ^ 23, by omega, by omega, by omega, by omega, u⟩
set_option maxRecDepth 100000 in
theorem pow_uniq {a b c : Nat} (ha : 2 ^ 149 ≤ a) (hb : a < 2 ^ 150) {m : Nat} (hm : 2 ^ 23 ≤ m) (hm2 : m < 2 ^ 24) (h : a * 2 ^ b = m * 2 ^ (c + 126)) : b = c ∧ a = m * 2 ^ 126 := by
  have e1 : m * 2 ^ (c + 126) = (m * 2 ^ 126) * 2 ^ c := by rw [Nat.pow_add, Nat.mul_comm (2 ^ c), Nat.mul_assoc]
  rw [e1] at h
  have k1 : 2 ^ 149 ≤ m * 2 ^ 126 := by
    have := Nat.mul_le_mul_right (2 ^ 126) hm
    have e : (2 : Nat) ^ 23 * 2 ^ 126 = 2 ^ 149 := by decide
    omega
  have k2 : m * 2 ^ 126 < 2 ^ 150 := by
    have := Nat.mul_lt_mul_of_pos_right hm2 (show 0 < 2 ^ 126 by decide)
    have e : (2 : Nat) ^ 24 * 2 ^ 126 = 2 ^ 150 := by decide
    omega
  generalize m * 2 ^ 126 = w at *
  have key : ∀ x y i j : Nat, 2 ^ 149 ≤ x → y < 2 ^ 150 → x * 2 ^ i = y * 2 ^ j → i ≤ j := by
    intro x y i j hx hy hh
    rcases Nat.lt_or_ge j i with z | z
    · exfalso
      have e2 : x * 2 ^ i = (x * 2 ^ (i - j)) * 2 ^ j := by
        have e0 : i - j + j = i := by omega
        rw [Nat.mul_assoc, ← Nat.pow_add, e0]
      rw [e2] at hh
      have e3 := Nat.eq_of_mul_eq_mul_right (Nat.two_pow_pos j) hh
      have e4 : 2 ^ 1 ≤ 2 ^ (i - j) := Nat.pow_le_pow_right (by decide) (by omega)
      have e5 := Nat.mul_le_mul hx e4
      have e6 : (2 : Nat) ^ 149 * 2 ^ 1 = 2 ^ 150 := by decide
      omega
    · exact z
  have i1 := key a w b c ha k2 h
  have i2 := key w a c b k1 hb h.symm
  have : b = c := Nat.le_antisymm i1 i2
  subst this
  exact ⟨rfl, Nat.eq_of_mul_eq_mul_right (Nat.two_pow_pos b) h⟩
set_option maxRecDepth 100000 in
theorem bits_end {X r : UInt32} {ex : Nat} (hX : nn0 X) (hu : uv r < 2 ^ 150) (hrel : uv r * 2 ^ ex = uv X * 2 ^ 127) (hex : 1 ≤ ex) (hor : 2 ^ 149 ≤ uv r ∨ ex = 1) : (ex - 1) * 2 ^ 23 + uv r / 2 ^ 126 = X.toNat ∧ (uv r = 0 ∨ 2 ^ 23 ≤ uv r) := by
  rcases hor with hg | rfl
  · have hl : (2 : Nat) ^ 23 ≤ 2 ^ 149 := by decide
    refine ⟨?_, Or.inr (Nat.le_trans hl hg)⟩
    rcases uv_X hX with ⟨h1, h2⟩ | ⟨E, M, h1, h2, h3, h4, h5⟩
    · exfalso
      have e4 : 2 ^ 1 ≤ 2 ^ ex := Nat.pow_le_pow_right (by decide) hex
      have e5 := Nat.mul_le_mul hg e4
      have e6 : (2 : Nat) ^ 149 * 2 ^ 1 = 2 ^ 150 := by decide
      have e7 := Nat.mul_lt_mul_of_pos_right h1 (show 0 < 2 ^ 127 by decide)
      have e8 : (2 : Nat) ^ 23 * 2 ^ 127 = 2 ^ 150 := by decide
      rw [h2] at hrel
      omega
    · rw [h5, Nat.mul_assoc, ← Nat.pow_add] at hrel
      have e9 : E - 1 + 127 = E + 126 := by omega
      rw [e9] at hrel
      obtain ⟨q1, q2⟩ := pow_uniq hg hu (m := 2 ^ 23 + M) (by omega) (by omega) hrel
      subst q1
      rw [q2, Nat.mul_div_cancel _ (show 0 < 2 ^ 126 by decide), h4]
      omega
  · have e1 : uv r = uv X * 2 ^ 126 := by
      have : uv r * 2 ^ 1 = (uv X * 2 ^ 126) * 2 ^ 1 := by
        rw [hrel, Nat.mul_assoc, ← Nat.pow_add]
      exact Nat.eq_of_mul_eq_mul_right (Nat.two_pow_pos 1) this
    have e2 : uv X < 2 ^ 24 := by
      rcases Nat.lt_or_ge (uv X) (2 ^ 24) with z | z
      · exact z
      · exfalso
        have := Nat.mul_le_mul_right (2 ^ 126) z
        have e : (2 : Nat) ^ 24 * 2 ^ 126 = 2 ^ 150 := by decide
        omega
    refine ⟨?_, ?_⟩
    · rw [e1, Nat.mul_div_cancel _ (show 0 < 2 ^ 126 by decide)]
      rcases uv_X hX with ⟨h1, h2⟩ | ⟨E, M, h1, h2, h3, h4, h5⟩
      · rw [h2, Nat.sub_self, Nat.zero_mul, Nat.zero_add]
      · have hE : E = 1 := by
          rcases Nat.lt_or_ge 1 E with z | z
          · exfalso
            have e4 : 2 ^ 1 ≤ 2 ^ (E - 1) := Nat.pow_le_pow_right (by decide) (by omega)
            have e5 := Nat.mul_le_mul (show 2 ^ 23 ≤ 2 ^ 23 + M by omega) e4
            have e6 : (2 : Nat) ^ 23 * 2 ^ 1 = 2 ^ 24 := by decide
            omega
          · omega
        subst hE
        have e7 : (2 : Nat) ^ (1 - 1) = 1 := by decide
        rw [e7, Nat.mul_one] at h5
        rw [h5, h4, Nat.sub_self, Nat.zero_mul, Nat.zero_add, Nat.one_mul]
    · rcases Nat.eq_zero_or_pos (uv X) with z | z
      · left
        rw [e1, z, Nat.zero_mul]
      · right
        have h1 := Nat.mul_le_mul_right (2 ^ 126) z
        have h2 : (2 : Nat) ^ 23 ≤ 1 * 2 ^ 126 := by decide
        have h3 : Nat.succ 0 * 2 ^ 126 = 1 * 2 ^ 126 := rfl
        rw [e1]
        exact Nat.le_trans h2 h1
set_option maxRecDepth 100000 in
theorem uv_top {X : UInt32} (hX : nn0 X) : uv X < 2 ^ 277 := by
  rcases uv_X hX with ⟨h1, h2⟩ | ⟨E, M, h1, h2, h3, h4, h5⟩
  · have : (2 : Nat) ^ 23 < 2 ^ 277 := by decide
    omega
  · rw [h5]
    have e1 : 2 ^ (E - 1) ≤ 2 ^ 253 := Nat.pow_le_pow_right (by decide) (by omega)
    have e2 : 2 ^ 23 + M < 2 ^ 24 := by omega
    have e3 := Nat.mul_lt_mul_of_lt_of_le e2 e1 (Nat.two_pow_pos 253)
    have e4 : (2 : Nat) ^ 24 * 2 ^ 253 = 2 ^ 277 := by decide
    omega
/-- |v| is a number that isn't below +0 -/
theorem fsz_nn0 {v : UInt32} (h : g_mg 255 v) (hz : v ≠ nz) : nn0 (fsz v) ∧ (v.toNat = (fsz v).toNat ∧ flt v FP.fconst0 = false ∨ v.toNat = (fsz v).toNat + 2 ^ 31 ∧ flt v FP.fconst0 = true) := by
  have hn := mg_nn h (by decide)
  have hl := v.toNat_lt
  have e2 : nz.toNat = 2 ^ 31 := by decide
  have hne : v.toNat ≠ 2 ^ 31 := fun q => hz (UInt32.toNat_inj.mp (by rw [q, e2]))
  unfold g_mg at h
  unfold nn0 fsz
  by_cases c : flt v FP.fconst0 = true
  · rw [if_pos c]
    have k := (flt_key hn nn_c0).mp c
    rw [fkey_c0] at k
    have t := fneg_toNat v
    unfold FP.Core.fkey at k
    split at k
    · rename_i q
      rw [if_pos q] at t
      exact ⟨by omega, Or.inr ⟨by omega, c⟩⟩
    · omega
  · rw [if_neg c]
    have k : ¬ FP.Core.fkey v < 0 := fun q => c ((flt_key hn nn_c0).mpr (by rw [fkey_c0]; exact q))
    unfold FP.Core.fkey at k
    split at k
    · omega
    · exact ⟨by omega, Or.inl ⟨rfl, by simpa using c⟩⟩
/-- the bits as an int -/
def bitI (v : UInt32) : Int32 := nI v.toNat
end GBits
