section GRef2
theorem g_clT2 {x y : UInt32} (h : Op.cmpValue (FP.fcmp x y) CmpOp.l > 0) : fgt x y = true := g_clt (fun q => Int32.not_lt.mpr q h)
theorem g_clF2 {x y : UInt32} (h : ¬ Op.cmpValue (FP.fcmp x y) CmpOp.l > 0) : fgt x y = false := g_clg (Int32.not_lt.mp h)
theorem es_mg (nw : Nat) (x : Nat → Int32) (S : TS) (i : Nat) : g_mg 159 (eS nw x S i) := g_mgpu _ _ _ _ i
theorem fl_mg {B : Nat} {S : TS} (h : OkS B S) (i : Nat) (hi : i < 5) : g_mg 135 (fl5 S i) := by
  unfold fl5
  split
  · exact g_mgW h.sp (by decide)
  · exact h.f i (by omega)
theorem am_live {d : Nat} (a f : Nat → UInt32) {i : Nat} (h : d.testBit i = false) (hi : i < 4) : a i = amP d a f 4 i := (if_pos ⟨hi, h⟩).symm
theorem am_dead {d : Nat} (a f : Nat → UInt32) {i : Nat} (h : d.testBit i = true) : f i = amP d a f 4 i := (if_neg (fun q => by rw [h] at q; exact absurd q.2 (by decide))).symm
def lpN (d : Nat) : Nat := if d = 0 then 8 else 0
theorem pgF_wF (S : TS) (v : Nat → UInt32) : pgF (wF S v) = pgF S := by
  funext j
  match j with
  | 0 | 1 | 2 | 3 | 4 | 5 | 6 | 7 | 8 | 9 | 10 => rfl
  | k + 11 => rfl
theorem pgF_wP (S : TS) (v : UInt32) : pgF (wP S v) = pgF S := by
  funext j
  match j with
  | 0 | 1 | 2 | 3 | 4 | 5 | 6 | 7 | 8 | 9 | 10 => rfl
  | k + 11 => rfl
theorem fsg_bb (x y : UInt32) : ((flt x FP.fconst0 && fgt y FP.fconst0) || (fgt x FP.fconst0 && flt y FP.fconst0)) = decide (fsg x * fsg y < 0) := by
  have hx : flt x FP.fconst0 = true → fgt x FP.fconst0 = false := flt_ngt
  have hy : flt y FP.fconst0 = true → fgt y FP.fconst0 = false := flt_ngt
  unfold fsg
  cases a : flt x FP.fconst0 <;> cases b : fgt x FP.fconst0 <;> cases c : flt y FP.fconst0 <;> cases d : fgt y FP.fconst0 <;> simp [a, b, c, d] at hx hy ⊢ <;> decide
theorem crB1 {d i : Nat} {f a : Nat → UInt32} {x : Int32} (h : d.testBit i = false) (h2 : ((flt (f i) FP.fconst0 && fgt (a i) FP.fconst0) || (fgt (f i) FP.fconst0 && flt (a i) FP.fconst0)) = true) : crF d f a x i + 1 = crF d f a x (i + 1) := by
  rw [fsg_bb] at h2
  exact crY h (of_decide_eq_true h2)
theorem crB0 {d i : Nat} {f a : Nat → UInt32} {x : Int32} (h : d.testBit i = false) (h2 : ((flt (f i) FP.fconst0 && fgt (a i) FP.fconst0) || (fgt (f i) FP.fconst0 && flt (a i) FP.fconst0)) = false) : crF d f a x i + 0 = crF d f a x (i + 1) := by
  rw [fsg_bb] at h2
  rw [Int32.add_zero]
  exact crN h (of_decide_eq_false h2)
theorem run_lt {r : Int32} (h : r = 0 ∨ r = 1 ∨ r = 2) (h2 : ¬ r + 1 = 3) : r + 1 < 3 := by
  rcases h with rfl | rfl | rfl
  · decide
  · decide
  · exact absurd (by decide) h2
theorem t1W_m1 {B : Nat} {S : TS} (h : OkS B S) {nw : Nat} {x : Nat → Int32} (hb : bS nw x S = true) (h2 : ¬ sR S + 1 = 3) : t1W nw x S = wR (wI S (sI S + 1)) (sR S + 1) := by
  have q := run_lt h.2.2.2.1 h2
  unfold t1W
  rw [hb]
  simp only [drF, drM, drI, drC, drR, if_true, if_pos q]
  rfl
theorem t1W_m2 {S : TS} {nw : Nat} {x : Nat → Int32} (hb : bS nw x S = true) (h2 : sR S + 1 = 3) : t1W nw x S = wR (wM (wR (wI S (sI S + 1)) (sR S + 1)) 1) 0 := by
  have q : ¬ sR S + 1 < 3 := by rw [h2]; decide
  unfold t1W
  rw [hb]
  simp only [drF, drM, drI, drC, drR, if_true, if_neg q]
  rfl
theorem t1W_n {S : TS} {nw : Nat} {x : Nat → Int32} (hb : bS nw x S = false) : t1W nw x S = wF (wC (wR S 0) (crF (sD S) (sF S) (aS nw x S) (sC S) 4)) (amP (sD S) (aS nw x S) (sF S) 4) := by
  unfold t1W
  rw [hb]
  rfl
theorem cm_f {w : Nat → Int32} {n c k : Nat} (h : 0 < n) : w (3 * (c % n) + k) = cmF w n c k := by
  have e : 3 * (c % n) + k = c % n * 3 + k := by omega
  rw [e]
  exact (if_neg (Nat.ne_of_gt h)).symm
theorem cm_f0 {w : Nat → Int32} {n c : Nat} (h : 0 < n) : w (3 * (c % n)) = cmF w n c 0 := cm_f (k := 0) h
def q1F (nf : Nat) (fl : Nat → Int32) (S : TS) : UInt32 := coP (cuW fl nf (sK S) (sF S) (sT S)) (cmF fl nf (sK S) 1) (cuV fl nf (sK S) (sF S) (sT S)) (cmF fl nf (sK S) 2)
def q2F (nf : Nat) (fl : Nat → Int32) (S : TS) : UInt32 := coP (cuU fl nf (sK S) (sF S) (sT S)) (cmF fl nf (sK S) 2) (cuW fl nf (sK S) (sF S) (sT S)) (cmF fl nf (sK S) 0)
def q3F (nf : Nat) (fl : Nat → Int32) (S : TS) : UInt32 := coP (cuV fl nf (sK S) (sF S) (sT S)) (cmF fl nf (sK S) 0) (cuU fl nf (sK S) (sF S) (sT S)) (cmF fl nf (sK S) 1)
/-- what a tick makes of the reference's own rows -/
def rj1 (nw : Nat) (x : Nat → Int32) (S : TS) (K : RJ) : RJ := if sM S = 1 then K else (wnF nw x S, amP (sD S) (aS nw x S) (sF S) 4, amP (sD S) (aiF (sF S) (eS nw x S) (g_tv 1 (lpN (sD S)))) (sF S) 4, cS nw x S, nS nw x S, hS nw x S, rM K)
def rj2 (S : TS) (K : RJ) : RJ := if 1 < pcn (sD S) then K else (rW K, rP K, rT K, rS K, rN K, rH K, moF (sF S))
def rjF (nw : Nat) (x : Nat → Int32) (S : TS) (K : RJ) : RJ := rj2 (t1F nw x S) (rj1 nw x S K)
def rjN (nw nf : Nat) (fl x : Nat → Int32) (S : TS) (K : RJ) : Nat → RJ
  | 0 => K
  | n + 1 => rjF nw x (tkN nw nf fl x S n) (rjN nw nf fl x S K n)
theorem g_geT2 {n : Nat} (h : n < 5) (c : nI n ≥ 2) : 1 < n := by
  rcases Nat.lt_or_ge 1 n with q | q
  · exact q
  · exact absurd c (nI_ge (show n < 2 by omega) (by decide))
theorem g_geF2 {n : Nat} (h : n < 5) (c : ¬ nI n ≥ 2) : ¬ 1 < n := fun q => c (nI_le (show 2 ≤ n from q) (by omega))
end GRef2
