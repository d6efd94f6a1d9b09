/-! MY WORDS: what the methods answer, as functions of numbers, floats (bits) and rows -/
section GSpec
/-- how many are in a set of four -/
def pcn (d : Nat) : Nat := [0, 1, 1, 2, 1, 2, 2, 3, 1, 2, 2, 3, 2, 3, 3, 4].getD d 0
theorem g_bit16 : ∀ d, d < 16 → ∀ i, i < 4 → ((nI d &&& ((1 : Int32) <<< (nI i &&& 31)) = 0) ↔ d.testBit i = false) := by decide +kernel
theorem g_bitT {d i : Nat} (hd : d < 16) (hi : i < 4) (h : ¬ nI d &&& ((1 : Int32) <<< (nI i &&& 31)) = 0) : b2i (d.testBit i) = 1 := by
  cases hb : d.testBit i with
  | false => exact absurd ((g_bit16 d hd i hi).mpr hb) h
  | true => rfl
theorem g_bitF {d i : Nat} (hd : d < 16) (hi : i < 4) (h : nI d &&& ((1 : Int32) <<< (nI i &&& 31)) = 0) : b2i (d.testBit i) = 0 := by
  rw [(g_bit16 d hd i hi).mp h]
  rfl
/-- |x| -/
def fsz (x : UInt32) : UInt32 := if flt x FP.fconst0 = true then FP.fneg x else x
/-- the sign of x -/
def fsg (x : UInt32) : Int32 := if flt x FP.fconst0 = true then -1 else if fgt x FP.fconst0 = true then 1 else 0
theorem fsz_T {x : UInt32} (h : flt x FP.fconst0 = true) : fsz x = FP.fneg x := by simp [fsz, h]
theorem fsz_F {x : UInt32} (h : flt x FP.fconst0 = false) : fsz x = x := by simp [fsz, h]
theorem fsg_lt {x : UInt32} (h : flt x FP.fconst0 = true) : fsg x = -1 := by simp [fsg, h]
theorem fsg_gt {x : UInt32} (h : flt x FP.fconst0 = false) (h2 : fgt x FP.fconst0 = true) : fsg x = 1 := by simp [fsg, h, h2]
theorem fsg_eq {x : UInt32} (h : flt x FP.fconst0 = false) (h2 : fgt x FP.fconst0 = false) : fsg x = 0 := by simp [fsg, h, h2]
end GSpec
