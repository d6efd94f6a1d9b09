/-! MY WORDS 2: the state of a craft, a tick, what holds of every state that is reached -/
section GTs
abbrev TS : Type := (Nat → UInt32) × (Nat → Int32) × (Nat → Int32) × Nat × Int32 × UInt32 × Int32 × Int32 × Int32 × Int32 × Nat
/-- speeds, settings, commands, dead, mode, spin, missed, crossings, safe ticks, run, clock -/
abbrev sF (S : TS) : Nat → UInt32 := S.1
abbrev sT (S : TS) : Nat → Int32 := S.2.1
abbrev sW (S : TS) : Nat → Int32 := S.2.2.1
abbrev sD (S : TS) : Nat := S.2.2.2.1
abbrev sM (S : TS) : Int32 := S.2.2.2.2.1
abbrev sP (S : TS) : UInt32 := S.2.2.2.2.2.1
abbrev sI (S : TS) : Int32 := S.2.2.2.2.2.2.1
abbrev sC (S : TS) : Int32 := S.2.2.2.2.2.2.2.1
abbrev sA (S : TS) : Int32 := S.2.2.2.2.2.2.2.2.1
abbrev sR (S : TS) : Int32 := S.2.2.2.2.2.2.2.2.2.1
abbrev sK (S : TS) : Nat := S.2.2.2.2.2.2.2.2.2.2
/-- what the next tick aims at: e, the step, s, near, the height, a miss -/
def eS (nw : Nat) (x : Nat → Int32) (S : TS) : Nat → UInt32 := epF (btF (sD S)) (sW S) nw (sK S) x
def cS (nw : Nat) (x : Nat → Int32) (S : TS) : Int32 := stF (sD S) (sF S) (eS nw x S) (FP.i2f (sT S 1))
def aS (nw : Nat) (x : Nat → Int32) (S : TS) : Nat → UInt32 := aiF (sF S) (eS nw x S) (cS nw x S)
def nS (nw : Nat) (x : Nat → Int32) (S : TS) : Int32 := neF (sD S) (FP.i2f (sT S 1)) (aS nw x S) 4
def hS (nw : Nat) (x : Nat → Int32) (S : TS) : UInt32 := heF (sD S) (aS nw x S) 4
def bS (nw : Nat) (x : Nat → Int32) (S : TS) : Bool := fgt (hS nw x S) (FP.i2f (sT S 0))
def t1S (S : TS) : TS := (sF S, sT S, sW S, sD S, sM S, spF (sP S), sI S, sC S, sA S + 1, sR S, sK S)
def t1W (nw : Nat) (x : Nat → Int32) (S : TS) : TS := (drF (bS nw x S) (sD S) (sF S) (aS nw x S), sT S, sW S, sD S, drM (bS nw x S) (sM S) (sR S), sP S, drI (bS nw x S) (sI S), drC (bS nw x S) (sD S) (sF S) (aS nw x S) (sC S), sA S, drR (bS nw x S) (sR S), sK S)
def t1F (nw : Nat) (x : Nat → Int32) (S : TS) : TS := if sM S = 1 then t1S S else t1W nw x S
def t2U (nf : Nat) (fl : Nat → Int32) (S : TS) : TS := (amP (sD S) (ulF (btF (sD S)) fl nf (sK S) (sF S) (sT S)) (sF S) 4, sT S, sW S, sD S, sM S, sP S, sI S, sC S, sA S, sR S, sK S)
def t2F (nf : Nat) (fl : Nat → Int32) (S : TS) : TS := if 1 < pcn (sD S) then S else t2U nf fl S
def t3F (S : TS) : TS := (sF S, sT S, sW S, sD S, sM S, sP S, sI S, sC S, sA S, sR S, sK S + 1)
/-- a tick: nw commands, nf fields fl, x: what is added to the command -/
def tkF (nw nf : Nat) (fl x : Nat → Int32) (S : TS) : TS := t3F (t2F nf fl (t1F nw x S))
def tkN (nw nf : Nat) (fl x : Nat → Int32) (S : TS) : Nat → TS
  | 0 => S
  | n + 1 => tkF nw nf fl x (tkN nw nf fl x S n)
/-- what the plant's own rows hold: bent, pushes, aims, step, near, height -/
abbrev PJ : Type := (Nat → Int32) × (Nat → UInt32) × (Nat → UInt32) × Int32 × Int32 × UInt32
abbrev jB (J : PJ) := J.1
abbrev jE (J : PJ) := J.2.1
abbrev jA (J : PJ) := J.2.2.1
abbrev jS (J : PJ) := J.2.2.2.1
abbrev jN (J : PJ) := J.2.2.2.2.1
abbrev jH (J : PJ) := J.2.2.2.2.2
def jnF (nw : Nat) (x : Nat → Int32) (S : TS) (J : PJ) : PJ := if sM S = 1 then (btF (sD S), J.2) else (btF (sD S), eS nw x S, amP (sD S) (aS nw x S) (jA J) 4, cS nw x S, nS nw x S, hS nw x S)
def jnN (nw nf : Nat) (fl x : Nat → Int32) (S : TS) (J : PJ) : Nat → PJ
  | 0 => J
  | n + 1 => jnF nw x (tkN nw nf fl x S n) (jnN nw nf fl x S J n)
theorem t1_d (nw : Nat) (x : Nat → Int32) (S : TS) : sD (t1F nw x S) = sD S := by
  unfold t1F
  split <;> rfl
theorem jn_b (nw : Nat) (x : Nat → Int32) (S : TS) (J : PJ) : jB (jnF nw x S J) = btF (sD (t1F nw x S)) := by
  rw [t1_d]
  unfold jnF
  split <;> rfl
theorem g_gtT {n : Nat} (h : n < 5) (c : nI n > 1) : 1 < n := by
  rcases Nat.lt_or_ge 1 n with q | q
  · exact q
  · exact absurd (nI_le q (by decide)) (Int32.not_le.mpr c)
theorem g_gtF {n : Nat} (h : n < 5) (c : ¬ nI n > 1) : ¬ 1 < n := fun q => c (nI_lt q (by omega))
/-- the lost ticks among the next n, and the state behind them -/
def clS (nw nf : Nat) (fl x : Nat → Int32) (S : TS) (n : Nat) : TS := if sM S = 1 then S else tkN nw nf fl x S n
def clJ (nw nf : Nat) (fl x : Nat → Int32) (S : TS) (J : PJ) (n : Nat) : PJ := if sM S = 1 then J else jnN nw nf fl x S J n
def clN (nw nf : Nat) (fl x : Nat → Int32) (S : TS) (n : Nat) : Int32 := if sM S = 1 then nI n else (sI (tkN nw nf fl x S n) + sA (tkN nw nf fl x S n)) - (sI S + sA S)
theorem dr_am (b : Bool) (d : Nat) (f a g : Nat → UInt32) : drF b d f (amP d a g 4) = drF b d f a := by
  unfold drF
  split
  · rfl
  · funext j
    simp only [amP]
    by_cases c : j < 4 ∧ d.testBit j = false
    · simp only [if_pos c]
    · simp only [if_neg c]
theorem cr_am (d : Nat) (f a g : Nat → UInt32) (x : Int32) : ∀ n, n ≤ 4 → crF d f (amP d a g 4) x n = crF d f a x n
  | 0, _ => rfl
  | n + 1, h => by
    have i := cr_am d f a g x n (by omega)
    by_cases c : d.testBit n = false
    · have e : amP d a g 4 n = a n := by
        have : n < 4 ∧ d.testBit n = false := ⟨by omega, c⟩
        simp only [amP, if_pos this]
      simp only [crF, i, e]
    · have e1 : ¬ (d.testBit n = false ∧ fsg (f n) * fsg (amP d a g 4 n) < 0) := fun q => c q.1
      have e2 : ¬ (d.testBit n = false ∧ fsg (f n) * fsg (a n) < 0) := fun q => c q.1
      simp only [crF, if_neg e1, if_neg e2, i]
theorem drC_am (b : Bool) (d : Nat) (f a g : Nat → UInt32) (x : Int32) : drC b d f (amP d a g 4) x = drC b d f a x := by
  unfold drC
  rw [cr_am d f a g x 4 (by omega)]
/-- what holds of every state that is reached, B: a bound of its clock -/
def OkS (B : Nat) (S : TS) : Prop := sD S < 16 ∧ (sM S = 0 ∨ sM S = 1) ∧ (sM S = 0 → pcn (sD S) ≤ 1) ∧ (sR S = 0 ∨ sR S = 1 ∨ sR S = 2) ∧ (∀ j, j < 4 → g_mg 135 (sF S j) ∧ sF S j ≠ nz) ∧ spO (sP S) ∧ sK S ≤ B ∧ 10 ≤ (sT S 0).toInt ∧ (sT S 0).toInt ≤ 99
theorem OkS.d {B : Nat} {S : TS} (h : OkS B S) : sD S < 16 := h.1
theorem OkS.f {B : Nat} {S : TS} (h : OkS B S) : ∀ j, j < 4 → g_mg 135 (sF S j) := fun j hj => (h.2.2.2.2.1 j hj).1
theorem OkS.k {B : Nat} {S : TS} (h : OkS B S) : sK S ≤ B := h.2.2.2.2.2.2.1
theorem OkS.up {B B' : Nat} {S : TS} (h : OkS B S) (hb : B ≤ B') : OkS B' S := ⟨h.1, h.2.1, h.2.2.1, h.2.2.2.1, h.2.2.2.2.1, h.2.2.2.2.2.1, Nat.le_trans h.k hb, h.2.2.2.2.2.2.2⟩
theorem OkS.sp {B : Nat} {S : TS} (h : OkS B S) : g_mg 129 (sP S) := spO_mg h.2.2.2.2.2.1
theorem aS_mg {B : Nat} {S : TS} (h : OkS B S) (nw : Nat) (x : Nat → Int32) : ∀ j, j < 4 → g_mg 164 (aS nw x S j) ∧ aS nw x S j ≠ nz := by
  intro j hj
  have h1 := h.2.2.2.2.1 j hj
  have h2 : g_mg 159 (eS nw x S j) := g_mgpu _ _ _ _ j
  have h3 := g_mgadd (K := 160) h2 (g_mgi (cS nw x S)) (by decide) (by decide) (by decide)
  exact ⟨g_mgadd (K := 162) h1.1 h3 (by decide) (by decide) (by decide), add_nz (K := 162) (g_mgW h1.1 (by decide)) h3 (by decide) h1.2⟩
theorem hS_ok {B : Nat} {S : TS} (h : OkS B S) (nw : Nat) (x : Nat → Int32) : g_mg 164 (hS nw x S) ∧ hS nw x S ≠ nz := by
  have q := he_ok (d := sD S) (K := 164) (by decide) 4 (fun j hj => aS_mg h nw x j hj)
  exact ⟨q.1, q.2.1⟩
theorem aS_in {B : Nat} {S : TS} (h : OkS B S) (nw : Nat) (x : Nat → Int32) (hb : bS nw x S = false) : ∀ j, j < 4 → (sD S).testBit j = false → g_mg 135 (aS nw x S j) := by
  intro j hj hd
  have q := he_ok (d := sD S) (K := 164) (by decide) 4 (fun j hj => aS_mg h nw x j hj)
  have t := g_mgis (v := sT S 0) 7 (by have := h.2.2.2.2.2.2.2; omega)
  have nt := mg_nn t (by decide)
  have nh := mg_nn q.1 (by decide)
  have k : ¬ FP.Core.fkey (FP.i2f (sT S 0)) < FP.Core.fkey (heF (sD S) (aS nw x S) 4) := fun z => by
    have := (fgt_key nh nt).mpr z
    unfold bS hS at hb
    rw [hb] at this
    exact Bool.false_ne_true this
  have k2 := (key_of_mg t).1
  have k3 := q.2.2.2 j hj hd
  unfold g_mg
  omega
theorem am_ok {d : Nat} {a f : Nat → UInt32} (ha : ∀ j, j < 4 → d.testBit j = false → g_mg 135 (a j) ∧ a j ≠ nz) (hf : ∀ j, j < 4 → g_mg 135 (f j) ∧ f j ≠ nz) : ∀ j, j < 4 → g_mg 135 (amP d a f 4 j) ∧ amP d a f 4 j ≠ nz := by
  intro j hj
  unfold amP
  by_cases c : j < 4 ∧ d.testBit j = false
  · rw [if_pos c]
    exact ha j hj c.2
  · rw [if_neg c]
    exact hf j hj
theorem run_ok {r : Int32} (h : r = 0 ∨ r = 1 ∨ r = 2) : (if r + 1 < 3 then r + 1 else 0) = 0 ∨ (if r + 1 < 3 then r + 1 else 0) = 1 ∨ (if r + 1 < 3 then r + 1 else 0) = 2 := by
  rcases h with rfl | rfl | rfl
  · exact Or.inr (Or.inl (by decide))
  · exact Or.inr (Or.inr (by decide))
  · exact Or.inl (by decide)
theorem OkS.t1 {B : Nat} {S : TS} (h : OkS B S) (nw : Nat) (x : Nat → Int32) : OkS B (t1F nw x S) := by
  unfold t1F
  by_cases c : sM S = 1
  · rw [if_pos c]
    exact ⟨h.1, h.2.1, h.2.2.1, h.2.2.2.1, h.2.2.2.2.1, spO_step h.2.2.2.2.2.1, h.2.2.2.2.2.2⟩
  · rw [if_neg c]
    have c0 : sM S = 0 := h.2.1.resolve_right c
    cases hb : bS nw x S with
    | true =>
      refine ⟨h.1, ?_, ?_, ?_, ?_, h.2.2.2.2.2.1, h.2.2.2.2.2.2⟩
      · show drM (bS nw x S) (sM S) (sR S) = 0 ∨ drM (bS nw x S) (sM S) (sR S) = 1
        rw [hb]
        simp only [drM, if_true]
        split
        · exact h.2.1
        · exact Or.inr rfl
      · intro _
        exact h.2.2.1 c0
      · show drR (bS nw x S) (sR S) = 0 ∨ drR (bS nw x S) (sR S) = 1 ∨ drR (bS nw x S) (sR S) = 2
        rw [hb]
        simp only [drR, if_true]
        exact run_ok h.2.2.2.1
      · show ∀ j, j < 4 → g_mg 135 (drF (bS nw x S) (sD S) (sF S) (aS nw x S) j) ∧ drF (bS nw x S) (sD S) (sF S) (aS nw x S) j ≠ nz
        rw [hb]
        simp only [drF, if_true]
        exact h.2.2.2.2.1
    | false =>
      refine ⟨h.1, ?_, ?_, ?_, ?_, h.2.2.2.2.2.1, h.2.2.2.2.2.2⟩
      · show drM (bS nw x S) (sM S) (sR S) = 0 ∨ drM (bS nw x S) (sM S) (sR S) = 1
        rw [hb]
        simp only [drM, Bool.false_eq_true, if_false]
        exact h.2.1
      · intro _
        exact h.2.2.1 c0
      · show drR (bS nw x S) (sR S) = 0 ∨ drR (bS nw x S) (sR S) = 1 ∨ drR (bS nw x S) (sR S) = 2
        rw [hb]
        simp only [drR, Bool.false_eq_true, if_false]
        exact Or.inl trivial
      · show ∀ j, j < 4 → g_mg 135 (drF (bS nw x S) (sD S) (sF S) (aS nw x S) j) ∧ drF (bS nw x S) (sD S) (sF S) (aS nw x S) j ≠ nz
        rw [hb]
        simp only [drF, Bool.false_eq_true, if_false]
        exact am_ok (fun j hj hd => ⟨aS_in h nw x hb j hj hd, (aS_mg h nw x j hj).2⟩) h.2.2.2.2.1
theorem g_mgga {b : Nat → Int32} {P Q R : UInt32} {i : Nat} (hb : ∀ j, j < 12 → (b j).toInt.natAbs ≤ 2 ^ 1) (hi : i < 4) (hP : g_mg 241 P) (hQ : g_mg 241 Q) (hR : g_mg 241 R) : g_mg 247 (gaF b P Q R i) := by
  have a0 := g_mgmul (K := 244) (g_mgis 1 (hb (i * 3) (by omega))) hP (by decide) (by decide)
  have a1 := g_mgmul (K := 244) (g_mgis 1 (hb (i * 3 + 1) (by omega))) hQ (by decide) (by decide)
  have a2 := g_mgmul (K := 244) (g_mgis 1 (hb (i * 3 + 2) (by omega))) hR (by decide) (by decide)
  exact g_mgdiv (K := 247) (L := 129) (g_mgadd (K := 246) (g_mgadd (K := 244) a0 a1 (by decide) (by decide) (by decide)) a2 (by decide) (by decide) (by decide)) (by decide) (by decide) (by decide) (by decide)
theorem g_mgcoP {w v : UInt32} (y z : Int32) (hw : g_mg 210 w) (hv : g_mg 210 v) : g_mg 241 (coP w y v z) := by
  have a := g_mgmul (K := 244) hw (g_mgi y) (by decide) (by decide)
  have b := g_mgmul (K := 244) hv (g_mgi z) (by decide) (by decide)
  exact g_mgdiv (K := 241) (L := 133) (g_mgsub (K := 244) a b (by decide) (by decide) (by decide)) (by decide) (by decide) (by decide) (by decide)
theorem OkS.t2 {B : Nat} {S : TS} (h : OkS B S) (nf : Nat) (fl : Nat → Int32) : OkS B (t2F nf fl S) := by
  unfold t2F
  split
  · exact h
  · refine ⟨h.1, h.2.1, h.2.2.1, h.2.2.2.1, ?_, h.2.2.2.2.2.1, h.2.2.2.2.2.2⟩
    refine am_ok (fun j hj _ => ?_) h.2.2.2.2.1
    have q := g_mgcu fl nf (sK S) (sF S) (sT S) h.f
    have g := g_mgga (b := btF (sD S)) (i := j) (bt_abs _ h.d) hj (g_mgcoP (cmF fl nf (sK S) 1) (cmF fl nf (sK S) 2) q.2.2 q.2.1) (g_mgcoP (cmF fl nf (sK S) 2) (cmF fl nf (sK S) 0) q.1 q.2.2) (g_mgcoP (cmF fl nf (sK S) 0) (cmF fl nf (sK S) 1) q.2.1 q.1)
    have h1 := h.2.2.2.2.1 j hj
    exact lim_ok (K := 249) (g_mgadd (K := 247) h1.1 g (by decide) (by decide) (by decide)) (by decide) h.2.2.2.2.2.2.2.1 h.2.2.2.2.2.2.2.2 (add_nz (K := 247) (g_mgW h1.1 (by decide)) g (by decide) h1.2)
theorem OkS.tk {B : Nat} {S : TS} (h : OkS B S) (nw nf : Nat) (fl x : Nat → Int32) : OkS (B + 1) (tkF nw nf fl x S) := by
  have q := (h.t1 nw x).t2 nf fl
  exact ⟨q.1, q.2.1, q.2.2.1, q.2.2.2.1, q.2.2.2.2.1, q.2.2.2.2.2.1, Nat.succ_le_succ q.k, q.2.2.2.2.2.2.2⟩
theorem OkS.tn {B : Nat} {S : TS} (h : OkS B S) (nw nf : Nat) (fl x : Nat → Int32) : ∀ n, OkS (B + n) (tkN nw nf fl x S n)
  | 0 => h
  | n + 1 => (OkS.tn h nw nf fl x n).tk nw nf fl x
end GTs
