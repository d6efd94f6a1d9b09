/-! MY ROWS 4: floats: order by keys, no -0, bounds -/
section GFlo
def nz : UInt32 := 2147483648
theorem mg_nn {K : Nat} {x : UInt32} (h : g_mg K x) (hk : K ≤ 255) : FP.Core.val32 x ≠ .nan := by
  rw [FP.Core.ne_nan32]
  have h1 : x.toNat % 2 ^ 31 < K * 2 ^ 23 := h
  have h2 : K * 2 ^ 23 ≤ 255 * 2 ^ 23 := Nat.mul_le_mul_right _ hk
  omega
theorem flt_key {x y : UInt32} (hx : FP.Core.val32 x ≠ .nan) (hy : FP.Core.val32 y ≠ .nan) : flt x y = true ↔ FP.Core.fkey x < FP.Core.fkey y := by
  unfold flt
  rw [decide_eq_true_iff]
  exact FP.Core.fcmp_lt_key hx hy
theorem fgt_key {x y : UInt32} (hx : FP.Core.val32 x ≠ .nan) (hy : FP.Core.val32 y ≠ .nan) : fgt x y = true ↔ FP.Core.fkey y < FP.Core.fkey x := by
  unfold fgt
  rw [decide_eq_true_iff]
  exact FP.Core.fcmp_gt_key hx hy
theorem fkey_abs (x : UInt32) : (FP.Core.fkey x).natAbs = x.toNat % 2 ^ 31 := by
  have h := x.toNat_lt
  unfold FP.Core.fkey
  split <;> omega
theorem fkey_c0 : FP.Core.fkey FP.fconst0 = 0 := by decide +kernel
theorem nn_c0 : FP.Core.val32 FP.fconst0 ≠ .nan := mg_nn g_mgc0 (by decide)
theorem fneg_toNat (x : UInt32) : (FP.fneg x).toNat = if 2 ^ 31 ≤ x.toNat then x.toNat - 2 ^ 31 else x.toNat + 2 ^ 31 := by
  have h := x.toNat_lt
  unfold FP.fneg
  rw [UInt32.toNat_xor]
  have e : (0x80000000 : UInt32).toNat = 2 ^ 31 := by decide
  rw [e]
  have hm : (x.toNat ^^^ 2 ^ 31) % 2 ^ 31 = x.toNat % 2 ^ 31 := by
    rw [Nat.xor_mod_two_pow]
    simp
  have hd : (x.toNat ^^^ 2 ^ 31) / 2 ^ 31 = x.toNat / 2 ^ 31 ^^^ 1 := by
    rw [Nat.xor_div_two_pow]
    try simp
  split
  · have q : x.toNat / 2 ^ 31 = 1 := by omega
    rw [q] at hd
    have : (1 ^^^ 1 : Nat) = 0 := by decide
    omega
  · have q : x.toNat / 2 ^ 31 = 0 := by omega
    rw [q] at hd
    have : (0 ^^^ 1 : Nat) = 1 := by decide
    omega
theorem fsz_key {x : UInt32} (hx : FP.Core.val32 x ≠ .nan) : FP.Core.fkey (fsz x) = ((x.toNat % 2 ^ 31 : Nat) : Int) := by
  have h := x.toNat_lt
  unfold fsz
  by_cases c : flt x FP.fconst0 = true
  · rw [if_pos c]
    have k := (flt_key hx nn_c0).mp c
    rw [fkey_c0] at k
    have t := fneg_toNat x
    unfold FP.Core.fkey at *
    split at k <;> split at t <;> split <;> omega
  · rw [if_neg c]
    have k : ¬ FP.Core.fkey x < 0 := fun q => c ((flt_key hx nn_c0).mpr (by rw [fkey_c0]; exact q))
    unfold FP.Core.fkey at *
    split at k <;> omega
theorem fsz_nz {x : UInt32} (hx : FP.Core.val32 x ≠ .nan) (h : x ≠ nz) : fsz x ≠ nz := by
  unfold fsz
  by_cases c : flt x FP.fconst0 = true
  · rw [if_pos c]
    have k := (flt_key hx nn_c0).mp c
    rw [fkey_c0] at k
    intro e
    have t := fneg_toNat x
    rw [e] at t
    have e2 : nz.toNat = 2 ^ 31 := by decide
    rw [e2] at t
    have hl := x.toNat_lt
    unfold FP.Core.fkey at k
    split at k <;> split at t <;> omega
  · rw [if_neg c]
    exact h
theorem mg_of_key {K : Nat} {x : UInt32} (h1 : FP.Core.fkey x < (K : Int) * 2 ^ 23) (h2 : -((K : Int) * 2 ^ 23) < FP.Core.fkey x) : g_mg K x := by
  have h := fkey_abs x
  unfold g_mg
  omega
theorem key_of_mg {K : Nat} {x : UInt32} (h : g_mg K x) : FP.Core.fkey x < (K : Int) * 2 ^ 23 ∧ -((K : Int) * 2 ^ 23) < FP.Core.fkey x := by
  have h1 := fkey_abs x
  unfold g_mg at h
  omega
theorem i2f_nz {v : Int32} (h : v.toInt ≠ 0) : FP.i2f v ≠ nz := by
  intro e
  have h1 := (FP.Core.i2f_big h).1
  have h2 : (FP.i2f v).toNat % 2 ^ 31 = 0 := by rw [e]; decide
  have h3 : 127 * 2 ^ 23 ≤ (FP.i2f v).toNat % 2 ^ 31 := h1
  omega
theorem i32_negI {m : Int32} (h : m.toInt ≠ -2147483648) : (-m).toInt = -m.toInt := by
  have h1 := m.toInt_lt
  have h2 := m.le_toInt
  rw [Int32.toInt_neg]
  rw [Int.bmod_def]
  have e : ((2 ^ 32 : Nat) : Int) = 4294967296 := by decide
  simp only [e] at *
  omega
theorem lim_ok {K : Nat} {v : UInt32} {m : Int32} (hv : g_mg K v) (hK : K ≤ 255) (h1 : 10 ≤ m.toInt) (h2 : m.toInt ≤ 99) (hz : v ≠ nz) : g_mg 135 (limF v m) ∧ limF v m ≠ nz := by
  have hn : (-m).toInt = -m.toInt := i32_negI (by omega)
  have a1 : g_mg 135 (FP.i2f m) := g_mgis 7 (by omega)
  have a2 : g_mg 135 (FP.i2f (-m)) := g_mgis 7 (by rw [hn]; omega)
  have b1 := i2f_nz (v := m) (by omega)
  have b2 := i2f_nz (v := -m) (by rw [hn]; omega)
  have nv := mg_nn hv hK
  have n1 := mg_nn a1 (by decide)
  have n2 := mg_nn a2 (by decide)
  unfold limF
  by_cases c : fgt v (FP.i2f m) = true
  · rw [if_pos c]
    exact ⟨a1, b1⟩
  · rw [if_neg c]
    by_cases c2 : flt v (FP.i2f (-m)) = true
    · rw [if_pos c2]
      exact ⟨a2, b2⟩
    · rw [if_neg c2]
      refine ⟨mg_of_key ?_ ?_, hz⟩
      · have q : ¬ FP.Core.fkey (FP.i2f m) < FP.Core.fkey v := fun q => c ((fgt_key nv n1).mpr q)
        have k := (key_of_mg a1).1
        omega
      · have q : ¬ FP.Core.fkey v < FP.Core.fkey (FP.i2f (-m)) := fun q => c2 ((flt_key nv n2).mpr q)
        have k := (key_of_mg a2).2
        omega
theorem val_nz : FP.Core.val32 nz = .fin true 0 FP.Core.b32.qmin := by decide +kernel
/-- a sum is -0 only if both are -/
theorem add_nz {K : Nat} {x y : UInt32} (hx : g_mg K x) (hy : g_mg K y) (hK : K ≤ 255) (hz : x ≠ nz) : FP.fadd x y ≠ nz := by
  intro e
  obtain ⟨s, c, q, ex⟩ := FP.Core.fin_of_lt32 hx hK
  obtain ⟨t, d, r, ey⟩ := FP.Core.fin_of_lt32 hy hK
  have fx := FP.Core.val32_fits x
  have fy := FP.Core.val32_fits y
  rw [ex] at fx
  rw [ey] at fy
  have h := FP.Core.val32_fadd x y
  have e' : FP.Core.fadd x y = nz := e
  rw [e', val_nz, ex, ey] at h
  have hmin : FP.Core.b32.qmin ≤ min q r := by
    have := fx.2.1
    have := fy.2.1
    omega
  simp only [FP.Core.exactSum, FP.Core.round] at h
  generalize hv : FP.Core.sumUnits s c q t d r (min q r) = v at h
  by_cases h0 : v = 0
  · subst h0
    simp only [Int.natAbs_zero, FP.Core.roundRatio, if_true, FP.Core.sumSign] at h
    injection h with h1 h2 h3
    have hs : s = true ∧ t = true := by
      cases s <;> cases t <;> simp at h1 <;> simp
    obtain ⟨rfl, rfl⟩ := hs
    unfold FP.Core.sumUnits FP.Core.signed FP.Core.inUnits at hv
    simp only [if_true] at hv
    have hc : c * 2 ^ (q - min q r).toNat = 0 := by omega
    have hc0 : c = 0 := by
      rcases Nat.mul_eq_zero.mp hc with z | z
      · exact z
      · exact absurd z (Nat.ne_of_gt (Nat.two_pow_pos _))
    subst hc0
    have hq : q = FP.Core.b32.qmin := FP.Core.fits_zero_q FP.Core.good_b32 fx
    subst hq
    exact hz (FP.Core.val32_inj (by rw [ex]; exact FP.Core.Datum.noConfusion) (by rw [ex, val_nz]))
  · have hpos : 0 < v.natAbs := by omega
    have hr := FP.Core.zmag_roundRatio_ge FP.Core.good_b32 (s := FP.Core.sumSign s t v) (A := v.natAbs) (B := 1) (e := min q r) (e0 := FP.Core.b32.qmin) (V := .fin false 1 FP.Core.b32.qmin) (by decide) ⟨by decide, by decide, by decide, Or.inl rfl⟩ (Int.le_refl _) hmin (by
      have : 0 < 2 ^ (min q r - FP.Core.b32.qmin).toNat := Nat.two_pow_pos _
      show FP.Core.zmag FP.Core.b32 (.fin false 1 FP.Core.b32.qmin) * 2 ^ (FP.Core.b32.qmin - FP.Core.b32.qmin).toNat * 1 ≤ v.natAbs * 2 ^ (min q r - FP.Core.b32.qmin).toNat
      have e1 : FP.Core.zmag FP.Core.b32 (.fin false 1 FP.Core.b32.qmin) * 2 ^ (FP.Core.b32.qmin - FP.Core.b32.qmin).toNat * 1 = 1 := by decide
      rw [e1]
      exact Nat.mul_pos hpos this)
    rw [← h] at hr
    exact absurd hr (by decide)
def spF (s : UInt32) : UInt32 := FP.fadd s (FP.fmul (FP.fsub FP.fconst2 s) 1048576000)
def spL : List UInt32 := [0, 1056964608, 1063256064, 1066663936, 1068433408, 1069760512, 1070755840, 1071502336, 1072062208, 1072482112, 1072797040, 1073033236, 1073210383, 1073343243, 1073442888, 1073517622, 1073573672, 1073615710, 1073647238, 1073670884, 1073688619, 1073701920, 1073711896, 1073719378, 1073724990, 1073729198, 1073732354, 1073734722, 1073736498, 1073737830, 1073738828, 1073739577, 1073740139, 1073740560, 1073740876, 1073741113, 1073741291, 1073741424, 1073741524, 1073741599, 1073741655, 1073741697, 1073741729, 1073741753, 1073741771, 1073741784, 1073741794, 1073741802, 1073741808, 1073741812, 1073741815, 1073741817, 1073741819, 1073741820, 1073741821, 1073741822]
def spO (s : UInt32) : Prop := s ∈ spL
theorem spO_0 : spO FP.fconst0 := by
  unfold spO
  decide +kernel
theorem spO_all : ∀ s ∈ spL, spF s ∈ spL := by decide +kernel
theorem spO_step {s : UInt32} (h : spO s) : spO (spF s) := spO_all s h
theorem spO_mg0 : ∀ s ∈ spL, s.toNat % 2 ^ 31 < 129 * 2 ^ 23 ∧ s ≠ nz := by decide +kernel
theorem spO_mg {s : UInt32} (h : spO s) : g_mg 129 s := (spO_mg0 s h).1
theorem spO_nz {s : UInt32} (h : spO s) : s ≠ nz := (spO_mg0 s h).2
theorem he_ok {d : Nat} {a : Nat → UInt32} {K : Nat} (hK : K ≤ 255) : ∀ n, (∀ j, j < n → g_mg K (a j) ∧ a j ≠ nz) → g_mg (max K 1) (heF d a n) ∧ heF d a n ≠ nz ∧ 0 ≤ FP.Core.fkey (heF d a n) ∧ ∀ j, j < n → d.testBit j = false → ((a j).toNat % 2 ^ 31 : Int) ≤ FP.Core.fkey (heF d a n)
  | 0, _ => ⟨g_mgW g_mgc0 (by omega), (show FP.fconst0 ≠ nz by decide), by rw [show heF d a 0 = FP.fconst0 from rfl, fkey_c0]; decide, fun j h => absurd h (Nat.not_lt_zero j)⟩
  | n + 1, h => by
    obtain ⟨i1, i2, i3, i4⟩ := he_ok (d := d) hK n (fun j hj => h j (by omega))
    obtain ⟨g1, g2⟩ := h n (by omega)
    have nn := mg_nn g1 hK
    have hh : (max K 1) ≤ 255 := by omega
    have nh := mg_nn i1 hh
    have ns := mg_nn (g_mgsz g1) hK
    have kk := fsz_key nn
    by_cases c : d.testBit n = false ∧ fgt (fsz (a n)) (heF d a n) = true
    · have e : heF d a (n + 1) = fsz (a n) := if_pos c
      rw [e]
      have k := (fgt_key ns nh).mp c.2
      refine ⟨g_mgW (g_mgsz g1) (by omega), fsz_nz nn g2, by omega, fun j hj hd => ?_⟩
      rcases (show j < n ∨ j = n by omega) with q | rfl
      · have := i4 j q hd
        omega
      · rw [kk]
        exact Int.le_refl _
    · have e : heF d a (n + 1) = heF d a n := if_neg c
      rw [e]
      refine ⟨i1, i2, i3, fun j hj hd => ?_⟩
      rcases (show j < n ∨ j = n by omega) with q | rfl
      · exact i4 j q hd
      · have k : ¬ FP.Core.fkey (heF d a j) < FP.Core.fkey (fsz (a j)) := fun q => c ⟨hd, (fgt_key ns nh).mpr q⟩
        rw [kk] at k
        omega
end GFlo
