section GPub
theorem out_nf {n a b : Nat} (h1 : a ≤ n) (h2 : n ≤ b) (hb : b < 2 ^ 31) : outB (nI n) (nI a) (nI b) = false := by
  unfold outB
  exact decide_eq_false (fun q => q.elim (Int32.not_lt.mpr (nI_le h1 (by omega))) (Int32.not_lt.mpr (nI_le h2 hb)))
/-- what the questions answer -/
def cnF (len nw nf held cn : Nat) (S : TS) (w : Int32) : Int32 :=
  if w = 0 then nI len else if w = 1 then nI nw else if w = 2 then nI nf else if w = 3 then nI (sD S) else if w = 4 then sM S else if w = 5 then nI (sK S)
  else if w = 6 then sI S else if w = 7 then sC S else if w = 8 then sA S else if w = 9 then sR S else if w = 10 then sT S 0 else if w = 11 then sT S 1
  else if w = 12 then sT S 2 else if w = 13 then sT S 3 else if w = 14 then nI held else if w = 15 then nI cn else -2
def whF (S : TS) (n : Nat) (w : Int32) : Int32 :=
  if w = 0 then bitI (sF S n) else if w = 1 then thF (sF S n) else if w = 2 then b2i ((sD S).testBit n) else if w = 3 then g_tv 0 (n * 3 + 0) else if w = 4 then g_tv 0 (n * 3 + 1) else if w = 5 then g_tv 0 (n * 3 + 2) else -2
def laF (S : TS) (k : Nat) : Int32 := if k = 0 then sM S else if k = 1 then sI S else if k = 2 then sC S else if k = 3 then sA S else sR S
def plF (nw : Nat) (x : Nat → Int32) (S : TS) (k : Nat) : Int32 := if k = 0 then cS nw x S else if k = 1 then nS nw x S else if k = 2 then bitI (hS nw x S) else b2i (bS nw x S)
def neA (nw : Nat) (x : Nat → Int32) (S : TS) (n : Nat) : UInt32 := if (sD S).testBit n = true then sF S n else aS nw x S n
def moA (S : TS) (k : Nat) : Int32 := if k = 6 then bitI (sP S) else if k < 3 then bitI (moF (sF S) k) else thF (moF (sF S) (k - 3))
theorem val_1i : FP.Core.val32 (FP.i2f 1) = .fin false (2 ^ 23) (-23) := by decide +kernel
theorem one_val {x : UInt32} {s : Bool} {c : Nat} {q : Int} (ex : FP.Core.val32 x = .fin s c q) : FP.Core.val32 (FP.fmul (FP.i2f 1) x) = .fin s c q := by
  have e := FP.Core.val32_fmul (FP.i2f 1) x
  have hf := FP.Core.val32_fits x
  rw [ex] at hf
  rw [ex, val_1i] at e
  show FP.Core.val32 (FP.Core.fmul (FP.i2f 1) x) = _
  rw [e]
  show FP.Core.roundRatio FP.Core.b32 (false != s) (2 ^ 23 * c) 1 (-23 + q) = _
  rw [show (false != s) = s by cases s <;> rfl]
  refine FP.Core.roundRatio_exact FP.Core.good_b32 (by decide) hf ?_
  rw [show (-23 + q - q).toNat = 0 by omega, show (q - (-23 + q)).toNat = 23 by omega, Nat.pow_zero, Nat.mul_one, Nat.mul_one, Nat.mul_comm]
theorem one_nz {K : Nat} {x : UInt32} (hx : g_mg K x) (hK : K ≤ 255) (hz : x ≠ nz) : FP.fmul (FP.i2f 1) x ≠ nz := by
  intro e
  obtain ⟨s, c, q, ex⟩ := FP.Core.fin_of_lt32 hx hK
  have h := one_val ex
  rw [e, val_nz] at h
  exact hz (FP.Core.val32_inj (by rw [ex]; exact FP.Core.Datum.noConfusion) (by rw [ex, val_nz, ← h]))
theorem mo_nz {f : Nat → UInt32} (hf : ∀ j, j < 4 → g_mg 135 (f j)) (h0 : f 0 ≠ nz) {k : Nat} (hk : k < 3) : moF f k ≠ nz := by
  have a0 := g_mgmul (K := 137) (g_mgax k (by omega)) (hf 0 (by omega)) (by decide) (by decide)
  have a1 := g_mgmul (K := 137) (g_mgax (3 + k) (by omega)) (hf 1 (by omega)) (by decide) (by decide)
  have a2 := g_mgmul (K := 137) (g_mgax (6 + k) (by omega)) (hf 2 (by omega)) (by decide) (by decide)
  have a3 := g_mgmul (K := 137) (g_mgax (9 + k) (by omega)) (hf 3 (by omega)) (by decide) (by decide)
  have s1 := g_mgadd (Ka := 137) (Kb := 137) (K := 137) a0 a1 (by decide) (by decide) (by decide)
  have s2 := g_mgadd (Ka := 139) (Kb := 137) (K := 139) s1 a2 (by decide) (by decide) (by decide)
  have e : g_tv 0 k = 1 := by
    rcases (show k = 0 ∨ k = 1 ∨ k = 2 by omega) with rfl | rfl | rfl <;> rfl
  have z0 : FP.fmul (FP.i2f (g_tv 0 k)) (f 0) ≠ nz := by rw [e]; exact one_nz (hf 0 (by omega)) (by decide) h0
  have z1 := add_nz (K := 137) a0 a1 (by decide) z0
  have z2 := add_nz (K := 139) s1 (g_mgW a2 (by decide)) (by decide) z1
  exact add_nz (K := 141) s2 (g_mgW a3 (by decide)) (by decide) z2
theorem OkS.mo {B : Nat} {S : TS} (h : OkS B S) {k : Nat} (hk : k < 3) : g_mg 143 (moF (sF S) k) ∧ moF (sF S) k ≠ nz := ⟨g_mgmo h.f hk, mo_nz h.f (h.2.2.2.2.1 0 (by decide)).2 hk⟩
/-- the plant behind a steering -/
def jgF (nw : Nat) (x : Nat → Int32) (S : TS) (J : PJ) : PJ := (btF (sD S), eS nw x S, amP (sD S) (aS nw x S) (jA J) 4, cS nw x S, nS nw x S, hS nw x S)
end GPub
