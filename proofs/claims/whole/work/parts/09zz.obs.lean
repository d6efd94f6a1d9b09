section GObs
/-- the greatest v of an observation -/
def grN (w : Nat) : Nat := if w = 0 then 1 else if w = 1 then 99 else 3
/-- whether something is so -/
def soF (w v : Nat) (mo mi : Int32) (f : Nat → UInt32) : Bool := if w = 0 then decide (mo = nI v) else if w = 1 then decide (mi = nI v) else flt (f v) FP.fconst0
theorem soF_0 {w v : Nat} {mo mi : Int32} {f : Nat → UInt32} (h : w = 0) : soF w v mo mi f = decide (mo = nI v) := if_pos h
theorem soF_1 {w v : Nat} {mo mi : Int32} {f : Nat → UInt32} (h : w = 1) : soF w v mo mi f = decide (mi = nI v) := by
  subst h
  rfl
theorem soF_2 {w v : Nat} {mo mi : Int32} {f : Nat → UInt32} (h : w = 2) : soF w v mo mi f = flt (f v) FP.fconst0 := by
  subst h
  rfl
theorem out_v4 {v : Nat} (h : v < 4) : b2i (outB (nI v) 0 3) = 0 := by
  have h1 : ¬ nI v < 0 := nI_pos (by omega)
  have h2 : nI v ≤ 3 := nI_le (show v ≤ 3 by omega) (by decide)
  exact out_F h1 h2
theorem b2i_inj {a b : Bool} (h : b2i a = b2i b) : a = b := by
  cases a <;> cases b <;> first | rfl | exact absurd h (by decide)
/-- a ring's places with one of them taken anew -/
def hiU (HS : Nat → TS) (en : Nat) (S : TS) : Nat → TS := fun k => if k = en then S else HS k
theorem hi_min {n : Nat} (h : n ≤ 14) : (if (14 : Int32) < nI n + 1 then (14 : Int32) else nI n + 1) = nI (min (n + 1) 14) := by
  rw [nI_1]
  rcases Nat.lt_or_ge 14 (n + 1) with q | q
  · have e : n = 14 := by omega
    subst e
    decide
  · have c : ¬ (14 : Int32) < nI (n + 1) := nI_nlt (a := 14) (b := n + 1) q (by decide)
    rw [if_neg c]
    congr 1
    omega
end GObs
