/-! MY WORDS 3: the reference's rows: its page, its floats; what its methods lay -/
section GRef
def pgF (S : TS) : Nat → Int32
  | 0 => nI (sD S)
  | 1 => sM S
  | 2 => sI S
  | 3 => sC S
  | 4 => sA S
  | 5 => sR S
  | 6 => nI (sK S)
  | 7 => sT S 0
  | 8 => sT S 1
  | 9 => sT S 2
  | 10 => sT S 3
  | k + 11 => sW S k
def fl5 (S : TS) : Nat → UInt32 := fun j => if j = 4 then sP S else sF S j
theorem fl5_lt (S : TS) {i : Nat} (h : i < 4) : fl5 S i = sF S i := if_neg (by omega)
theorem pgF_w (S : TS) (k : Nat) : pgF S (11 + k) = sW S k := by
  rw [Nat.add_comm]
  rfl
def wD (S : TS) (v : Nat) : TS := (sF S, sT S, sW S, v, sM S, sP S, sI S, sC S, sA S, sR S, sK S)
def wM (S : TS) (v : Int32) : TS := (sF S, sT S, sW S, sD S, v, sP S, sI S, sC S, sA S, sR S, sK S)
def wI (S : TS) (v : Int32) : TS := (sF S, sT S, sW S, sD S, sM S, sP S, v, sC S, sA S, sR S, sK S)
def wC (S : TS) (v : Int32) : TS := (sF S, sT S, sW S, sD S, sM S, sP S, sI S, v, sA S, sR S, sK S)
def wA (S : TS) (v : Int32) : TS := (sF S, sT S, sW S, sD S, sM S, sP S, sI S, sC S, v, sR S, sK S)
def wR (S : TS) (v : Int32) : TS := (sF S, sT S, sW S, sD S, sM S, sP S, sI S, sC S, sA S, v, sK S)
def wK (S : TS) (v : Nat) : TS := (sF S, sT S, sW S, sD S, sM S, sP S, sI S, sC S, sA S, sR S, v)
def wF (S : TS) (v : Nat → UInt32) : TS := (v, sT S, sW S, sD S, sM S, sP S, sI S, sC S, sA S, sR S, sK S)
def wP (S : TS) (v : UInt32) : TS := (sF S, sT S, sW S, sD S, sM S, v, sI S, sC S, sA S, sR S, sK S)
def wT (S : TS) (v : Nat → Int32) : TS := (sF S, v, sW S, sD S, sM S, sP S, sI S, sC S, sA S, sR S, sK S)
def wW (S : TS) (v : Nat → Int32) : TS := (sF S, sT S, v, sD S, sM S, sP S, sI S, sC S, sA S, sR S, sK S)
theorem upd_far {f : Nat → Int32} {k j : Nat} {v : Int32} (h : j ≠ k) : upd f k v j = f j := if_neg h
theorem pg_D (S : TS) (v : Nat) : upd (pgF S) 0 (nI v) = pgF (wD S v) := by
  funext j
  match j with
  | 0 | 1 | 2 | 3 | 4 | 5 | 6 | 7 | 8 | 9 | 10 => rfl
  | k + 11 => exact upd_far (by omega)
theorem pg_M (S : TS) (v : Int32) : upd (pgF S) 1 v = pgF (wM S v) := by
  funext j
  match j with
  | 0 | 1 | 2 | 3 | 4 | 5 | 6 | 7 | 8 | 9 | 10 => rfl
  | k + 11 => exact upd_far (by omega)
theorem pg_I (S : TS) (v : Int32) : upd (pgF S) 2 v = pgF (wI S v) := by
  funext j
  match j with
  | 0 | 1 | 2 | 3 | 4 | 5 | 6 | 7 | 8 | 9 | 10 => rfl
  | k + 11 => exact upd_far (by omega)
theorem pg_C (S : TS) (v : Int32) : upd (pgF S) 3 v = pgF (wC S v) := by
  funext j
  match j with
  | 0 | 1 | 2 | 3 | 4 | 5 | 6 | 7 | 8 | 9 | 10 => rfl
  | k + 11 => exact upd_far (by omega)
theorem pg_A (S : TS) (v : Int32) : upd (pgF S) 4 v = pgF (wA S v) := by
  funext j
  match j with
  | 0 | 1 | 2 | 3 | 4 | 5 | 6 | 7 | 8 | 9 | 10 => rfl
  | k + 11 => exact upd_far (by omega)
theorem pg_R (S : TS) (v : Int32) : upd (pgF S) 5 v = pgF (wR S v) := by
  funext j
  match j with
  | 0 | 1 | 2 | 3 | 4 | 5 | 6 | 7 | 8 | 9 | 10 => rfl
  | k + 11 => exact upd_far (by omega)
theorem pg_K (S : TS) (v : Nat) : upd (pgF S) 6 (nI v) = pgF (wK S v) := by
  funext j
  match j with
  | 0 | 1 | 2 | 3 | 4 | 5 | 6 | 7 | 8 | 9 | 10 => rfl
  | k + 11 => exact upd_far (by omega)
theorem fl_P (S : TS) (v : UInt32) : vf_upd (fl5 S) 4 v = fl5 (wP S v) := by
  funext j
  simp only [vf_upd, fl5]
  by_cases h : j = 4
  · simp only [if_pos h]
    rfl
  · simp only [if_neg h]
    rfl
theorem fl_am (S : TS) (d : Nat) (a : Nat → UInt32) : amP d a (fl5 S) 4 = fl5 (wF S (amP d a (sF S) 4)) := by
  funext j
  simp only [amP, fl5]
  by_cases h : j = 4
  · subst h
    simp
    rfl
  · by_cases c : j < 4 ∧ d.testBit j = false
    · simp only [if_pos c, if_neg h]
      show a j = amP d a (sF S) 4 j
      simp only [amP, if_pos c]
    · simp only [if_neg c, if_neg h]
      show sF S j = amP d a (sF S) 4 j
      simp only [amP, if_neg c]
def inL (v a b : Int64) : Bool := decide (a ≤ v ∧ v ≤ b)
theorem in_T {v a b : Int64} (h1 : ¬ lg_cmp v a < 0) (h2 : ¬ lg_cmp v b > 0) : b2i (inL v a b) = 1 := by
  have q1 : a ≤ v := (lg_cmp_ge v a).mp (Int32.not_lt.mp h1)
  have q2 : v ≤ b := by
    have : ¬ b < v := fun q => h2 (by
      have : lg_cmp v b = 1 := if_pos q
      rw [this]
      decide)
    exact Int64.not_lt.mp this
  simp [inL, q1, q2, b2i]
theorem in_F1 {v a b : Int64} (h1 : lg_cmp v a < 0) : b2i (inL v a b) = 0 := by
  have q1 : ¬ a ≤ v := fun q => (Int32.not_le.mpr h1) ((lg_cmp_ge v a).mpr q)
  simp [inL, q1, b2i]
theorem in_F2 {v a b : Int64} (h2 : lg_cmp v b > 0) : b2i (inL v a b) = 0 := by
  have q2 : ¬ v ≤ b := by
    intro q
    have e : ¬ v > b := Int64.not_lt.mpr q
    have : lg_cmp v b = if v = b then 0 else -1 := if_neg e
    rw [this] at h2
    split at h2 <;> exact absurd h2 (by decide)
  simp [inL, q2, b2i]
theorem g_has16 : ∀ d, d < 16 → ∀ i, i < 4 → (((nI d >>> (nI i &&& 31)) &&& 1) = 1 ↔ d.testBit i = true) := by decide +kernel
theorem has_T {d i : Nat} (hd : d < 16) (hi : i < 4) (h : ((nI d >>> (nI i &&& 31)) &&& 1) = 1) : b2i (d.testBit i) = 1 := by
  rw [(g_has16 d hd i hi).mp h]
  rfl
theorem has_F {d i : Nat} (hd : d < 16) (hi : i < 4) (h : ¬ ((nI d >>> (nI i &&& 31)) &&& 1) = 1) : b2i (d.testBit i) = 0 := by
  cases q : d.testBit i with
  | false => rfl
  | true => exact absurd ((g_has16 d hd i hi).mpr q) h
def pwF (a : Int32) : Nat → Int32
  | 0 => 1
  | n + 1 => pwF a n * a
/-- rows whose first i places are f's -/
def cpF (f g : Nat → UInt32) (i : Nat) : Nat → UInt32 := fun j => if j < i then f j else g j
def cpI (f g : Nat → Int32) (i : Nat) : Nat → Int32 := fun j => if j < i then f j else g j
theorem cpF_0 (f g : Nat → UInt32) : g = cpF f g 0 := by
  funext j
  simp [cpF]
theorem cpI_0 (f g : Nat → Int32) : g = cpI f g 0 := by
  funext j
  simp [cpI]
theorem cpF_s {f : Nat → UInt32} (g : Nat → UInt32) {i : Nat} {v : UInt32} (h : v = f i) : vf_upd (cpF f g i) i v = cpF f g (i + 1) := by
  funext j
  simp only [vf_upd, cpF]
  by_cases hj : j = i
  · subst hj
    simp [h]
  · have : j < i ↔ j < i + 1 := by omega
    simp only [if_neg hj, this]
theorem cpI_s {f : Nat → Int32} (g : Nat → Int32) {i : Nat} {v : Int32} (h : v = f i) : upd (cpI f g i) i v = cpI f g (i + 1) := by
  funext j
  simp only [upd, cpI]
  by_cases hj : j = i
  · subst hj
    simp [h]
  · have : j < i ↔ j < i + 1 := by omega
    simp only [if_neg hj, this]
theorem cpF_n (f g : Nat → UInt32) (n : Nat) : ∀ j, j < n → cpF f g n j = f j := fun j h => if_pos h
theorem cpI_n (f g : Nat → Int32) (n : Nat) : ∀ j, j < n → cpI f g n j = f j := fun j h => if_pos h
/-- the first state -/
def iniT : Nat → Int32 := g_tv 2
def iniS : TS := (fun _ => FP.fconst0, iniT, fun _ => 0, 0, 0, FP.fconst0, 0, 0, 0, 0, 0)
theorem bg_29 (g : Nat → Int32) : ∀ j, j < 29 → upd (upd (upd (upd (cpI (fun _ => 0) g 29) 7 50) 8 1) 9 1) 10 5 j = pgF iniS j := by
  intro j hj
  match j, hj with
  | 0, _ | 1, _ | 2, _ | 3, _ | 4, _ | 5, _ | 6, _ | 7, _ | 8, _ | 9, _ | 10, _ => rfl
  | k + 11, hk =>
    simp only [upd, cpI]
    have h1 : ¬ k + 11 = 7 := by omega
    have h2 : ¬ k + 11 = 8 := by omega
    have h3 : ¬ k + 11 = 9 := by omega
    have h4 : ¬ k + 11 = 10 := by omega
    simp only [if_neg h1, if_neg h2, if_neg h3, if_neg h4, if_pos hk]
    rfl
/-- the command as the reference lays it -/
def wnF (nw : Nat) (x : Nat → Int32) (S : TS) : Nat → Int32 := fun k => cmX (sW S) nw (sK S) x k
theorem cm_at (S : TS) {nw i : Nat} (h : 0 < nw) : pgF S (11 + 3 * (sK S % nw) + i) = cmF (sW S) nw (sK S) i := by
  have e : 11 + 3 * (sK S % nw) + i = 11 + (sK S % nw * 3 + i) := by omega
  rw [e, pgF_w]
  exact (if_neg (Nat.ne_of_gt h)).symm
theorem cm_0 (w : Nat → Int32) (c i : Nat) : 0 = cmF w 0 c i := rfl
theorem wn_3 (nw : Nat) (x y z : Int32) (S : TS) (g : Nat → Int32) : ∀ j, j < 3 → upd (upd (upd (cpI (cmF (sW S) nw (sK S)) g 3) 0 (cpI (cmF (sW S) nw (sK S)) g 3 0 + x)) 1 (upd (cpI (cmF (sW S) nw (sK S)) g 3) 0 (cpI (cmF (sW S) nw (sK S)) g 3 0 + x) 1 + y)) 2 (upd (upd (cpI (cmF (sW S) nw (sK S)) g 3) 0 (cpI (cmF (sW S) nw (sK S)) g 3 0 + x)) 1 (upd (cpI (cmF (sW S) nw (sK S)) g 3) 0 (cpI (cmF (sW S) nw (sK S)) g 3 0 + x) 1 + y) 2 + z) j = wnF nw (x3F x y z) S j := by
  intro j hj
  rcases (show j = 0 ∨ j = 1 ∨ j = 2 by omega) with rfl | rfl | rfl <;> rfl
/-- the dead wheel, -9 for none -/
def tdP (d : Nat) : Nat → Int32
  | 0 => -9
  | i + 1 => if d.testBit i = true then nI i else tdP d i
theorem tdP_ok (d : Nat) : ∀ n, n ≤ 4 → tdP d n = -9 ∨ ∃ m, m < 4 ∧ tdP d n = nI m
  | 0, _ => Or.inl rfl
  | n + 1, h => by
    by_cases c : d.testBit n = true
    · exact Or.inr ⟨n, by omega, if_pos c⟩
    · rw [show tdP d (n + 1) = tdP d n from if_neg c]
      exact tdP_ok d n (by omega)
def axF (dd : Int32) (i k : Nat) : Int32 := g_tv 0 (3 * i + k) - (if dd = -9 then 0 else g_tv 0 (3 * dd.toNatClampNeg + k))
theorem ax_m {dd : Int32} {i k mm : Nat} (h : dd = nI mm) (hm : mm < 4) (hn : ¬ dd = -9) : g_tv 0 (3 * i + k) - g_tv 0 (3 * mm + k) = axF dd i k := by
  unfold axF
  rw [if_neg hn, h, nI_clamp (by omega)]
theorem ax_9 {dd : Int32} {i k : Nat} (h : dd = -9) : g_tv 0 (3 * i + k) - 0 = axF dd i k := by
  unfold axF
  rw [if_pos h]
theorem ax_bt : ∀ d, d < 16 → pcn d ≤ 1 → ∀ i, i < 4 → ∀ k, k < 3 → axF (tdP d 4) i k = btF d (i * 3 + k) := by decide +kernel
theorem ax_abs2 : ∀ d, d < 16 → pcn d ≤ 1 → ∀ i, i < 4 → ∀ k, k < 3 → (axF (tdP d 4) i k).toInt.natAbs ≤ 2 ^ 1 := by decide +kernel
theorem tu_eq {d i : Nat} (hd : d < 16) (hp : pcn d ≤ 1) (hi : i < 4) (w : Nat → Int32) : 0 + axF (tdP d 4) i 0 * w 0 + axF (tdP d 4) i 1 * w 1 + axF (tdP d 4) i 2 * w 2 = btF d (i * 3) * w 0 + btF d (i * 3 + 1) * w 1 + btF d (i * 3 + 2) * w 2 := by
  rw [ax_bt d hd hp i hi 0 (by omega), ax_bt d hd hp i hi 1 (by omega), ax_bt d hd hp i hi 2 (by omega), Int32.zero_add]
  rfl
theorem ne_am (d : Nat) (bd : UInt32) (a f : Nat → UInt32) : ∀ n, n ≤ 4 → neF d bd (amP d a f 4) n = neF d bd a n
  | 0, _ => rfl
  | n + 1, h => by
    have i := ne_am d bd a f n (by omega)
    by_cases c : d.testBit n = false
    · have e : amP d a f 4 n = a n := if_pos ⟨by omega, c⟩
      simp only [neF, i, e]
    · simp only [neF, i, c]
      simp
theorem he_am (d : Nat) (a f : Nat → UInt32) : ∀ n, n ≤ 4 → heF d (amP d a f 4) n = heF d a n
  | 0, _ => rfl
  | n + 1, h => by
    have i := he_am d a f n (by omega)
    by_cases c : d.testBit n = false
    · have e : amP d a f 4 n = a n := if_pos ⟨by omega, c⟩
      simp only [heF, i, e]
    · simp only [heF, i, c]
      simp
/-- what the reference's own rows hold: want, planned, tried, step, near, height, momentum -/
abbrev RJ : Type := (Nat → Int32) × (Nat → UInt32) × (Nat → UInt32) × Int32 × Int32 × UInt32 × (Nat → UInt32)
abbrev rW (K : RJ) := K.1
abbrev rP (K : RJ) := K.2.1
abbrev rT (K : RJ) := K.2.2.1
abbrev rS (K : RJ) := K.2.2.2.1
abbrev rN (K : RJ) := K.2.2.2.2.1
abbrev rH (K : RJ) := K.2.2.2.2.2.1
abbrev rM (K : RJ) := K.2.2.2.2.2.2
end GRef
