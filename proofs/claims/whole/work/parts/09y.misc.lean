section GMisc
section
variable {p : Program} {l : Launch} {e : Env} {R : Room} {s : State} {m : MethodId} {args : Array Value} {below : List Frame} {meth : Method} {c : Code} {H : Heap} {locs : List Loc} {cells slots : Nat} {Q : State → Prop} {cc : ByteArray} {pc : Nat} {ls : Array Slot} {rest : List Value}
theorem lv_ldcwf (hexec : p.tables.exec = Jvm.exec) (hb : c.code = cc) {own : String} {index : Nat} {v : UInt32} (hown : s.vm.findClass own = some m.cls) (hconst : (Jvm.Cond.constantFloat own index v).before args s = true) (hdg : decode cc pc = .ok (.ldc_w index, 3)) (k : W p l e R s m args below meth c H locs cells slots Q (F0 m (pc + 3) ls (.float v :: rest))) : W p l e R s m args below meth c H locs cells slots Q (F0 m pc ls rest) := by
  intro T hT X
  obtain ⟨t, a, b⟩ := k T hT X
  refine ⟨t, ?_, b⟩
  obtain ⟨k', cf, hk, hcf, hcp⟩ := Cond.constantFloat_spec hown hconst
  obtain ⟨k2, hk2, he⟩ := X.warmed.alike.2.2 _ _ hk
  have hdg' : decode c.code pc = .ok (.ldc_w index, 3) := by rw [hb]; exact hdg
  jvm_step X.here [hexec, hdg', ldc_w.wp_float (s := T) (f := F0 m pc ls rest) X.here.top hk2 (by rw [he]; exact hcf) hcp]
  exact a
end
def outB (v a b : Int32) : Bool := decide (v < a ∨ b < v)
theorem out_T1 {v a b : Int32} (h : v < a) : b2i (outB v a b) = 1 := by simp [outB, h, b2i]
theorem out_T2 {v a b : Int32} (h : ¬ v ≤ b) : b2i (outB v a b) = 1 := by
  have : b < v := Int32.not_le.mp h
  simp [outB, this, b2i]
theorem out_F {v a b : Int32} (h : ¬ v < a) (h2 : v ≤ b) : b2i (outB v a b) = 0 := by
  have : ¬ b < v := Int32.not_lt.mpr h2
  simp [outB, h, this, b2i]
theorem out_ok {v a b : Int32} (h : outB v a b = false) : a ≤ v ∧ v ≤ b := by
  have := of_decide_eq_false h
  exact ⟨Int32.not_lt.mp (fun q => this (Or.inl q)), Int32.not_lt.mp (fun q => this (Or.inr q))⟩
/-- a number from 0 to n is one -/
theorem out_n {v b : Int32} {n : Nat} (hb : b.toInt = n) (h : outB v 0 b = false) : ∃ j : Nat, j ≤ n ∧ v = nI j := by
  obtain ⟨h1, h2⟩ := out_ok h
  exact nI_of2 hb (Int32.not_lt.mpr h1) h2
def thF (v : UInt32) : Int32 := FP.f2i (FP.fmul v 1148846080)
theorem g_lvF {x y : UInt32} (h : ¬ Op.cmpValue (FP.fcmp x y) CmpOp.l < 0) : ¬ FP.fcmp x y = some .lt := by
  intro e
  rw [e] at h
  exact h (by decide)
theorem g_lvT {x y : UInt32} (h : Op.cmpValue (FP.fcmp x y) CmpOp.l < 0) (hx : nn0 x) (hy : nn0 y) : FP.fcmp x y = some .lt := by
  have q : FP.fcmp x y ≠ none := fun z => by
    rcases (FP.Core.fcmp_none x y).mp z with w | w
    · exact nn0_val hx w
    · exact nn0_val hy w
  revert h q
  cases FP.fcmp x y with
  | none => exact fun _ q => absurd rfl q
  | some o => cases o <;> first | (intro _ _; rfl) | exact fun h => absurd h (by decide)
theorem flt_uv {x y : UInt32} (hx : nn0 x) (hy : nn0 y) (h : flt x y = true) : uv x < uv y := (lt_uv hx hy).mp (of_decide_eq_true h)
theorem flt_uvF {x y : UInt32} (hx : nn0 x) (hy : nn0 y) (h : flt x y = false) : uv y ≤ uv x := Nat.not_lt.mp (fun q => absurd ((lt_uv hx hy).mpr q) (of_decide_eq_false h))
/-- the end of bitsOf's first loop, ahead of the second -/
theorem bo_dn {x r : UInt32} {i : Nat} (hx : nn0 x) (hr : nn0 r) (hrel : uv r * 2 ^ i = uv x) (hi : i = 127) : uv r < 2 ^ 150 := by
  subst hi
  have h := uv_top hx
  rcases Nat.lt_or_ge (uv r) (2 ^ 150) with z | z
  · exact z
  · exfalso
    have h2 := Nat.mul_le_mul_right (2 ^ 127) z
    have e : (2 : Nat) ^ 150 * 2 ^ 127 = 2 ^ 277 := by rw [← Nat.pow_add]
    rw [e, hrel] at h2
    exact absurd h (Nat.not_lt.mpr h2)
theorem bo_h {x r : UInt32} {i : Nat} (hr : nn0 r) (hrel : uv r * 2 ^ i = uv x) (hg : 2 ^ 150 ≤ uv r) : nn0 (FP.fdiv r FP.fconst2) ∧ uv (FP.fdiv r FP.fconst2) * 2 ^ (i + 1) = uv x ∧ 2 ^ 149 ≤ uv (FP.fdiv r FP.fconst2) := by
  obtain ⟨h1, h2⟩ := hlf hr hg
  refine ⟨h1, ?_, ?_⟩
  · rw [← hrel, ← h2, Nat.pow_succ, Nat.mul_comm (2 ^ i) 2, ← Nat.mul_assoc, Nat.mul_comm _ 2]
  · have e : (2 : Nat) ^ 150 = 2 * 2 ^ 149 := by rw [Nat.pow_succ, Nat.mul_comm]
    rw [← h2, e] at hg
    exact Nat.le_of_mul_le_mul_left hg (by decide)
theorem bo_d {x r : UInt32} {ex : Nat} (hr : nn0 r) (hrel : uv r * 2 ^ (ex + 1) = uv x * 2 ^ 127) (hl : uv r < 2 ^ 149) : nn0 (FP.fmul r FP.fconst2) ∧ uv (FP.fmul r FP.fconst2) * 2 ^ ex = uv x * 2 ^ 127 ∧ uv (FP.fmul r FP.fconst2) < 2 ^ 150 := by
  obtain ⟨h1, h2⟩ := dbl hr hl
  refine ⟨h1, ?_, ?_⟩
  · rw [← hrel, h2, Nat.pow_succ, Nat.mul_comm (2 ^ ex) 2, ← Nat.mul_assoc, Nat.mul_comm (uv r) 2]
  · have e : (2 : Nat) ^ 150 = 2 * 2 ^ 149 := by rw [Nat.pow_succ, Nat.mul_comm]
    rw [h2, e]
    exact Nat.mul_lt_mul_of_pos_left hl (by decide)
theorem bo_rel0 {x r : UInt32} {i : Nat} (hrel : uv r * 2 ^ i = uv x) : uv r * 2 ^ (127 + i) = uv x * 2 ^ 127 := by
  rw [← hrel, Nat.mul_assoc, ← Nat.pow_add, Nat.add_comm i 127]
theorem bo_shl (n : Nat) (h : n < 255) : nI n <<< ((23 : Int32) &&& 31) = nI (n * 2 ^ 23) := pk_shlN _ 23 (by decide) (by omega)
theorem bo_div {r : UInt32} (h : uv r * 2 ^ 23 / 2 ^ 149 = uv r * 2 ^ 23 / 2 ^ 149) : uv r * 2 ^ 23 / 2 ^ 149 = uv r / 2 ^ 126 := by
  have e : (2 : Nat) ^ 149 = 2 ^ 126 * 2 ^ 23 := by rw [← Nat.pow_add]
  rw [e]
  exact Nat.mul_div_mul_right _ _ (Nat.two_pow_pos 23)
theorem bo_end {x r : UInt32} {ex : Nat} (hx : nn0 x) (hr : nn0 r) (hu : uv r < 2 ^ 150) (hrel : uv r * 2 ^ ex = uv x * 2 ^ 127) (hex : 1 ≤ ex) (hexl : ex < 255) (hor : 2 ^ 149 ≤ uv r ∨ ex = 1) : (nI ex - 1) <<< ((23 : Int32) &&& 31) + FP.f2i (FP.fmul r 1258291200) = nI x.toNat := by
  obtain ⟨h1, h2⟩ := bits_end hx hu hrel hex hor
  obtain ⟨h3, h4⟩ := shf hr hu h2
  have h5 : uv (FP.fmul r 1258291200) / 2 ^ 149 = uv r / 2 ^ 126 := by
    rw [h4]
    exact bo_div rfl
  have h6 : uv r / 2 ^ 126 < 2 ^ 31 := by
    unfold nn0 at hx
    omega
  rw [f2i_uv h3 (by rw [h5]; exact h6), h5, show nI ex - 1 = nI (ex - 1) from pk_sub hex, bo_shl _ (by omega), nI_add, h1]
theorem bo_neg : ∀ n, n < 2 ^ 31 → nI n ||| (-2147483648) = nI (n + 2 ^ 31) := by
  intro n hn
  apply Int32.toBitVec_inj.mp
  rw [Int32.toBitVec_or]
  have e1 : (nI n).toBitVec = BitVec.ofNat 32 n := rfl
  have e2 : (nI (n + 2 ^ 31)).toBitVec = BitVec.ofNat 32 (n + 2 ^ 31) := rfl
  rw [e1, e2]
  apply BitVec.eq_of_toNat_eq
  rw [BitVec.toNat_or, BitVec.toNat_ofNat, BitVec.toNat_ofNat]
  have e3 : (-2147483648 : Int32).toBitVec.toNat = 2 ^ 31 := by decide
  rw [e3, Nat.mod_eq_of_lt (by omega), Nat.mod_eq_of_lt (by omega)]
  have := Nat.two_pow_add_eq_or_of_lt (i := 31) hn 1
  rw [Nat.mul_one] at this
  rw [Nat.or_comm, ← this, Nat.add_comm]
def facF : Nat → Int32
  | 0 => 1
  | n + 1 => facF n * nI (n + 1)
theorem fac_1 : facF 1 = 1 := by decide
theorem fac_s (n : Nat) : facF n * nI (n + 1) = facF (n + 1) := rfl
def rwF : Nat → Int64
  | 0 => 1
  | n + 1 => rwF n * 10000
theorem fac_leaf {n i : Nat} (h : i + 1 ≤ max n 1) (h2 : n < i + 2) : facF (i + 1) = facF n := by
  rcases (show i + 1 = n ∨ (n = 0 ∧ i = 0) by omega) with rfl | ⟨rfl, rfl⟩
  · rfl
  · decide
theorem st_div (row i : Nat) (h : row < 2 ^ 62) : lN (row / 10000 ^ i) / 10000 = lN (row / 10000 ^ (i + 1)) := by
  have hl : row / 10000 ^ i < 2 ^ 63 := Nat.lt_of_le_of_lt (Nat.div_le_self _ _) (by omega)
  have := pk_lDiv (a := row / 10000 ^ i) (b := 10000) hl (by decide) (by decide)
  rw [Nat.pow_succ, ← Nat.div_div_eq_div_mul]
  exact this
theorem st_mod (row i : Nat) (h : row < 2 ^ 62) : nI (row / 10000 ^ i % 10000) = (lN (row / 10000 ^ i) - lN (row / 10000 ^ i) / 10000 * 10000).toInt32 := by
  have hl : row / 10000 ^ i < 2 ^ 63 := Nat.lt_of_le_of_lt (Nat.div_le_self _ _) (by omega)
  have := pk_lRem (a := row / 10000 ^ i) (b := 10000) hl (by decide) (by decide)
  have e : (10000 : Int64) = lN 10000 := rfl
  rw [e, this, lN_i]
def frF (over : Int32) (u w : Nat) (up : Bool) : Int32 := if up = true then over / nI (Nat.gcd w u) else nI u / nI (Nat.gcd w u)
/-- Euclid's steps: i of them from (u, w) lead to (dv, rs) -/
def euI (u w i dv rs : Nat) : Prop := Nat.gcd rs dv = Nat.gcd w u ∧ rs * 2 ^ (i / 2) ≤ w ∧ (0 < i → dv * 2 ^ ((i - 1) / 2) ≤ w ∧ rs < dv) ∧ 0 < dv ∧ dv ≤ max u w
theorem eu_0 {u w : Nat} (h : 0 < u) : euI u w 0 u w := ⟨rfl, by simp, fun q => absurd q (by omega), h, by omega⟩
theorem eu_le {u w i dv rs : Nat} (h : euI u w i dv rs) : rs ≤ w := by
  have h1 := h.2.1
  have h2 : 1 ≤ 2 ^ (i / 2) := Nat.two_pow_pos _
  have h3 := Nat.mul_le_mul_left rs h2
  omega
theorem eu_s {u w i dv rs : Nat} (h : euI u w i dv rs) (h0 : 0 < rs) : euI u w (i + 1) rs (dv % rs) := by
  obtain ⟨h1, h2, h3, h4, h5⟩ := h
  have hlt := Nat.mod_lt dv h0
  have hw : rs ≤ w := eu_le ⟨h1, h2, h3, h4, h5⟩
  refine ⟨?_, ?_, fun _ => ⟨by rw [Nat.add_sub_cancel]; exact h2, hlt⟩, h0, by omega⟩
  · rw [← h1]
    exact (Nat.gcd_rec rs dv).symm
  · rcases Nat.mod_two_eq_zero_or_one i with q | q
    · have e : (i + 1) / 2 = i / 2 := by omega
      rw [e]
      exact Nat.le_trans (Nat.mul_le_mul_right _ (Nat.le_of_lt hlt)) h2
    · obtain ⟨h6, h7⟩ := h3 (by omega)
      have e : (i + 1) / 2 = (i - 1) / 2 + 1 := by omega
      rw [e, Nat.pow_succ]
      have h8 : 2 * (dv % rs) ≤ dv := by
        have h9 := Nat.mod_add_div dv rs
        have h10 : 1 ≤ dv / rs := Nat.div_pos (Nat.le_of_lt h7) h0
        have h11 := Nat.mul_le_mul_left rs h10
        omega
      have h12 := Nat.mul_le_mul_right (2 ^ ((i - 1) / 2)) h8
      rw [Nat.mul_comm (2 ^ ((i - 1) / 2)) 2, ← Nat.mul_assoc, Nat.mul_comm (dv % rs) 2]
      omega
theorem eu_64 {u w dv rs : Nat} (h : euI u w 64 dv rs) (hw : w < 2 ^ 31) : rs = 0 := by
  have h2 : rs * 2 ^ 32 ≤ w := h.2.1
  omega
theorem eu_end {u w i dv rs : Nat} (h : euI u w i dv rs) (h0 : rs = 0) : dv = Nat.gcd w u := by
  rw [← h.1, h0, Nat.gcd_zero_left]
end GMisc
