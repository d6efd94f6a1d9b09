/-! MY WORDS: what the methods answer, as functions of numbers, floats (bits) and rows -/
section GSpec
theorem lv_conv {ls : Array Slot} {nL : Nat} {l : List (Nat × Value)} (h : lv_has ls nL l) (k : Nat) {i : Nat} {v v' : Value} (hk : l[k]? = some (i, v)) (e : v = v') : lv_has ls nL (l.set k (i, v')) := by
  subst e
  have hlt := (List.getElem?_eq_some_iff.mp hk)
  obtain ⟨h1, h2⟩ := hlt
  have : l.set k (i, v) = l := by
    rw [← h2]
    exact List.set_getElem_self h1
  rw [this]
  exact h
/-- how many are in a set of four -/
def pcn (d : Nat) : Nat := [0, 1, 1, 2, 1, 2, 2, 3, 1, 2, 2, 3, 2, 3, 3, 4].getD d 0
/-- a wheel goes in, out -/
def dIn (d i : Nat) : Nat := if d.testBit i = true then d else d + 2 ^ i
def dOut (d i : Nat) : Nat := if d.testBit i = true then d - 2 ^ i else d
theorem g_bit16 : ∀ d, d < 16 → ∀ i, i < 4 → ((nI d &&& ((1 : Int32) <<< (nI i &&& 31)) = 0) ↔ d.testBit i = false) := by decide +kernel
theorem g_in16 : ∀ d, d < 16 → ∀ i, i < 4 → (nI d ||| ((1 : Int32) <<< (nI i &&& 31))) = nI (dIn d i) := by decide +kernel
theorem g_out16 : ∀ d, d < 16 → ∀ i, i < 4 → (nI d &&& (((1 : Int32) <<< (nI i &&& 31)) ^^^ (-1))) = nI (dOut d i) := by decide +kernel
theorem g_not16 : ∀ d, d < 16 → ((15 : Int32) &&& (nI d ^^^ (-1))) = nI (15 - d) := by decide +kernel
theorem dIn_lt : ∀ d, d < 16 → ∀ i, i < 4 → dIn d i < 16 := by decide +kernel
theorem dOut_lt : ∀ d, d < 16 → ∀ i, i < 4 → dOut d i < 16 := by decide +kernel
theorem pcn_lt : ∀ d, d < 16 → pcn d < 5 := by decide +kernel
theorem g_bitT {d i : Nat} (hd : d < 16) (hi : i < 4) (h : ¬ nI d &&& ((1 : Int32) <<< (nI i &&& 31)) = 0) : b2i (d.testBit i) = 1 := by
  cases hb : d.testBit i with
  | false => exact absurd ((g_bit16 d hd i hi).mpr hb) h
  | true => rfl
theorem g_bitF {d i : Nat} (hd : d < 16) (hi : i < 4) (h : nI d &&& ((1 : Int32) <<< (nI i &&& 31)) = 0) : b2i (d.testBit i) = 0 := by
  rw [(g_bit16 d hd i hi).mp h]
  rfl
theorem b2i_ne {b : Bool} (h : ¬ b2i b = 0) : b = true := by
  cases b with
  | false => exact absurd rfl h
  | true => rfl
theorem b2i_eq {b : Bool} (h : b2i b = 0) : b = false := by
  cases b with
  | false => rfl
  | true => exact absurd h (by decide)
/-- the mode behind a change of the dead: safe if two are dead -/
def spM (d : Nat) (m : Int32) : Int32 := if 1 < pcn d then 1 else m
/-- |x| -/
def fsz (x : UInt32) : UInt32 := if flt x FP.fconst0 = true then FP.fneg x else x
/-- the sign of x -/
def fsg (x : UInt32) : Int32 := if flt x FP.fconst0 = true then -1 else if fgt x FP.fconst0 = true then 1 else 0
theorem fsz_T {x : UInt32} (h : flt x FP.fconst0 = true) : fsz x = FP.fneg x := by simp [fsz, h]
theorem fsz_F {x : UInt32} (h : flt x FP.fconst0 = false) : fsz x = x := by simp [fsz, h]
theorem fsg_lt {x : UInt32} (h : flt x FP.fconst0 = true) : fsg x = -1 := by simp [fsg, h]
theorem fsg_gt {x : UInt32} (h : flt x FP.fconst0 = false) (h2 : fgt x FP.fconst0 = true) : fsg x = 1 := by simp [fsg, h, h2]
theorem fsg_eq {x : UInt32} (h : flt x FP.fconst0 = false) (h2 : fgt x FP.fconst0 = false) : fsg x = 0 := by simp [fsg, h, h2]
theorem g_mgsz {K : Nat} {x : UInt32} (h : g_mg K x) : g_mg K (fsz x) := by
  unfold fsz
  split
  · exact g_mgneg h
  · exact h
/-- a part of the momentum -/
def moF (f : Nat → UInt32) (k : Nat) : UInt32 := FP.fadd (FP.fadd (FP.fadd (FP.fmul (FP.i2f (g_tv 0 k)) (f 0)) (FP.fmul (FP.i2f (g_tv 0 (3 + k))) (f 1))) (FP.fmul (FP.i2f (g_tv 0 (6 + k))) (f 2))) (FP.fmul (FP.i2f (g_tv 0 (9 + k))) (f 3))
theorem ax_abs : ∀ j, j < 12 → (g_tv 0 j).toInt.natAbs ≤ 2 ^ 0 := by decide +kernel
theorem g_mgax (j : Nat) (h : j < 12) : g_mg 128 (FP.i2f (g_tv 0 j)) := g_mgis 0 (ax_abs j h)
theorem g_mgmo {f : Nat → UInt32} (hf : ∀ j, j < 4 → g_mg 135 (f j)) {k : Nat} (hk : k < 3) : g_mg 143 (moF f k) := by
  have a0 := g_mgmul (K := 137) (g_mgax k (by omega)) (hf 0 (by omega)) (by decide) (by decide)
  have a1 := g_mgmul (K := 137) (g_mgax (3 + k) (by omega)) (hf 1 (by omega)) (by decide) (by decide)
  have a2 := g_mgmul (K := 137) (g_mgax (6 + k) (by omega)) (hf 2 (by omega)) (by decide) (by decide)
  have a3 := g_mgmul (K := 137) (g_mgax (9 + k) (by omega)) (hf 3 (by omega)) (by decide) (by decide)
  exact g_mgadd (K := 141) (g_mgadd (K := 139) (g_mgadd (K := 137) a0 a1 (by decide) (by decide) (by decide)) a2 (by decide) (by decide) (by decide)) a3 (by decide) (by decide) (by decide)
theorem g_eqn1 {n : Nat} (h : n < 5) (c : nI n = 1) : n = 1 := (nI_eq (by omega) (by decide)).mp c
theorem g_nen1 {n : Nat} (c : ¬ nI n = 1) : ¬ n = 1 := fun h => c (by rw [h]; rfl)
/-- what is taken off every axis: the dead wheel's, if just one is dead -/
def lessP (d k : Nat) : Nat → Int32
  | 0 => 0
  | i + 1 => if pcn d = 1 ∧ d.testBit i = true then g_tv 0 (i * 3 + k) else lessP d k i
theorem lessT {d k i : Nat} (h : pcn d = 1) (h2 : d.testBit i = true) : g_tv 0 (i * 3 + k) = lessP d k (i + 1) := (if_pos ⟨h, h2⟩).symm
theorem lessN1 {d k i : Nat} (h : ¬ pcn d = 1) : lessP d k i = lessP d k (i + 1) := (if_neg (fun q => h q.1)).symm
theorem lessN2 {d k i : Nat} (h : d.testBit i = false) : lessP d k i = lessP d k (i + 1) := (if_neg (fun q => by rw [h] at q; exact absurd q.2 Bool.false_ne_true)).symm
def btF (d : Nat) : Nat → Int32 := fun j => g_tv 0 j - lessP d (j % 3) 4
def bnP (d : Nat) (g : Nat → Int32) (k i : Nat) : Nat → Int32 := fun j => if j < 12 ∧ (j % 3 < k ∨ (j % 3 = k ∧ j / 3 < i)) then btF d j else g j
theorem bnP_0 (d : Nat) (g : Nat → Int32) : g = bnP d g 0 0 := by
  funext j
  have : ¬ (j < 12 ∧ (j % 3 < 0 ∨ (j % 3 = 0 ∧ j / 3 < 0))) := by omega
  simp only [bnP, if_neg this]
theorem bnP_col (d : Nat) (g : Nat → Int32) (k : Nat) : bnP d g k 4 = bnP d g (k + 1) 0 := by
  funext j
  have : (j < 12 ∧ (j % 3 < k ∨ (j % 3 = k ∧ j / 3 < 4))) ↔ (j < 12 ∧ (j % 3 < k + 1 ∨ (j % 3 = k + 1 ∧ j / 3 < 0))) := by omega
  simp only [bnP, this]
theorem bnP_step (d : Nat) (g : Nat → Int32) {k i : Nat} (hk : k < 3) (hi : i < 4) : upd (bnP d g k i) (i * 3 + k) (g_tv 0 (i * 3 + k) - lessP d k 4) = bnP d g k (i + 1) := by
  funext j
  simp only [upd, bnP]
  by_cases hj : j = i * 3 + k
  · subst hj
    have h1 : (i * 3 + k) % 3 = k := by omega
    have h2 : (i * 3 + k) / 3 = i := by omega
    have h3 : i * 3 + k < 12 := by omega
    simp only [h1, h2, h3, btF]
    simp
  · have : (j < 12 ∧ (j % 3 < k ∨ (j % 3 = k ∧ j / 3 < i))) ↔ (j < 12 ∧ (j % 3 < k ∨ (j % 3 = k ∧ j / 3 < i + 1))) := by omega
    simp only [if_neg hj, this]
theorem bnP_3 (d : Nat) (g : Nat → Int32) : ∀ j, j < 12 → bnP d g 3 0 j = btF d j := by
  intro j hj
  have : j < 12 ∧ (j % 3 < 3 ∨ (j % 3 = 3 ∧ j / 3 < 0)) := by omega
  simp only [bnP, if_pos this]
theorem bt_abs : ∀ d, d < 16 → ∀ j, j < 12 → (btF d j).toInt.natAbs ≤ 2 ^ 1 := by decide +kernel
/-- a component of a triple, of the row whose turn it is -/
def cmF (w : Nat → Int32) (n c k : Nat) : Int32 := if n = 0 then 0 else w (c % n * 3 + k)
def cmX (w : Nat → Int32) (n c : Nat) (x : Nat → Int32) (k : Nat) : Int32 := cmF w n c k + x k
/-- what a command pushes, e -/
def puF (b : Nat → Int32) (x y z : Int32) : Nat → UInt32 := fun i => FP.fdiv (FP.i2f (b (i * 3) * x + b (i * 3 + 1) * y + b (i * 3 + 2) * z)) 1082130432
theorem g_mgpu (b : Nat → Int32) (x y z : Int32) (i : Nat) : g_mg 159 (puF b x y z i) := g_mgdiv (K := 159) (L := 129) (g_mgi _) (by decide) (by decide) (by decide) (by decide)
/-- what the command of now pushes -/
def epF (b w : Nat → Int32) (n c : Nat) (x : Nat → Int32) : Nat → UInt32 := puF b (cmX w n c x 0) (cmX w n c x 1) (cmX w n c x 2)
/-- the speeds aimed at by a step, s -/
def aiF (f e : Nat → UInt32) (c : Int32) : Nat → UInt32 := fun i => FP.fadd (f i) (FP.fadd (e i) (FP.i2f c))
def neF (d : Nat) (bd : UInt32) (a : Nat → UInt32) : Nat → Int32
  | 0 => 0
  | i + 1 => if d.testBit i = false ∧ flt (fsz (a i)) bd = true then neF d bd a i + 1 else neF d bd a i
def heF (d : Nat) (a : Nat → UInt32) : Nat → UInt32
  | 0 => FP.fconst0
  | i + 1 => if d.testBit i = false ∧ fgt (fsz (a i)) (heF d a i) = true then fsz (a i) else heF d a i
/-- rows whose first i places are a's, for the wheels that are alive -/
def amP (d : Nat) (a g : Nat → UInt32) (i : Nat) : Nat → UInt32 := fun j => if j < i ∧ d.testBit j = false then a j else g j
theorem am_0 (d : Nat) (a g : Nat → UInt32) : g = amP d a g 0 := by
  funext j
  have : ¬ (j < 0 ∧ d.testBit j = false) := by omega
  simp only [amP, if_neg this]
theorem am_step {d : Nat} {a : Nat → UInt32} (g : Nat → UInt32) {i : Nat} {x : UInt32} (h : d.testBit i = false) (hx : x = a i) : vf_upd (amP d a g i) i x = amP d a g (i + 1) := by
  funext j
  simp only [vf_upd, amP]
  by_cases hj : j = i
  · subst hj
    simp [h, hx]
  · have : (j < i ∧ d.testBit j = false) ↔ (j < i + 1 ∧ d.testBit j = false) := by
      constructor
      · intro q; exact ⟨by omega, q.2⟩
      · intro q; exact ⟨by omega, q.2⟩
    simp only [if_neg hj, this]
theorem am_skip {d : Nat} (a g : Nat → UInt32) {i : Nat} (h : d.testBit i = true) : amP d a g i = amP d a g (i + 1) := by
  funext j
  simp only [amP]
  by_cases hj : j = i
  · subst hj
    simp [h]
  · have : (j < i ∧ d.testBit j = false) ↔ (j < i + 1 ∧ d.testBit j = false) := by
      constructor
      · intro q; exact ⟨by omega, q.2⟩
      · intro q; exact ⟨by omega, q.2⟩
    simp only [this]
theorem am_at {d : Nat} (a g : Nat → UInt32) (i : Nat) : amP d a g i i = g i := by
  have : ¬ (i < i ∧ d.testBit i = false) := by omega
  simp only [amP, if_neg this]
theorem ep_4 (a g : Nat → UInt32) : ∀ j, j < 4 → amP 0 a g 4 j = a j := by
  intro j hj
  simp [amP, hj]
theorem am_am (d : Nat) (a b g : Nat → UInt32) : amP d a (amP d b g 4) 4 = amP d a g 4 := by
  funext j
  simp only [amP]
  by_cases hj : j < 4 ∧ d.testBit j = false
  · simp only [if_pos hj]
  · simp only [if_neg hj]
theorem g_mgam {K : Nat} {d : Nat} {a g : Nat → UInt32} {i j : Nat} (ha : g_mg K (a j)) (hg : g_mg K (g j)) : g_mg K (amP d a g i j) := by
  unfold amP
  split
  · exact ha
  · exact hg
/-- the best step of the first k + 1 -/
def bsF (d : Nat) (f e : Nat → UInt32) (bd : UInt32) : Nat → Int32
  | 0 => g_tv 1 0
  | k + 1 => if neF d bd (aiF f e (g_tv 1 (k + 1))) 4 < neF d bd (aiF f e (bsF d f e bd k)) 4 ∨ (neF d bd (aiF f e (g_tv 1 (k + 1))) 4 = neF d bd (aiF f e (bsF d f e bd k)) 4 ∧ flt (heF d (aiF f e (g_tv 1 (k + 1))) 4) (heF d (aiF f e (bsF d f e bd k)) 4) = true) then g_tv 1 (k + 1) else bsF d f e bd k
theorem bsT {d : Nat} {f e : Nat → UInt32} {bd : UInt32} {k : Nat} (h : neF d bd (aiF f e (g_tv 1 (k + 1))) 4 < neF d bd (aiF f e (bsF d f e bd k)) 4 ∨ (neF d bd (aiF f e (g_tv 1 (k + 1))) 4 = neF d bd (aiF f e (bsF d f e bd k)) 4 ∧ flt (heF d (aiF f e (g_tv 1 (k + 1))) 4) (heF d (aiF f e (bsF d f e bd k)) 4) = true)) : g_tv 1 (k + 1) = bsF d f e bd (k + 1) := (if_pos h).symm
theorem bsN {d : Nat} {f e : Nat → UInt32} {bd : UInt32} {k : Nat} (h : ¬ (neF d bd (aiF f e (g_tv 1 (k + 1))) 4 < neF d bd (aiF f e (bsF d f e bd k)) 4 ∨ (neF d bd (aiF f e (g_tv 1 (k + 1))) 4 = neF d bd (aiF f e (bsF d f e bd k)) 4 ∧ flt (heF d (aiF f e (g_tv 1 (k + 1))) 4) (heF d (aiF f e (bsF d f e bd k)) 4) = true))) : bsF d f e bd k = bsF d f e bd (k + 1) := (if_neg h).symm
def stF (d : Nat) (f e : Nat → UInt32) (bd : UInt32) : Int32 := if d = 0 then bsF d f e bd 8 else g_tv 1 0
theorem g_eq0 {d : Nat} (hd : d < 16) (c : nI d = 0) : d = 0 := (nI_eq (by omega) (by decide)).mp c
theorem g_ne0 {d : Nat} (hd : d < 16) (c : ¬ nI d = 0) : ¬ d = 0 := fun h => c (by rw [h]; rfl)
/-- crossings, counted from x on -/
def crF (d : Nat) (f a : Nat → UInt32) (x : Int32) : Nat → Int32
  | 0 => x
  | i + 1 => if d.testBit i = false ∧ fsg (f i) * fsg (a i) < 0 then crF d f a x i + 1 else crF d f a x i
theorem crS {d i : Nat} {f a : Nat → UInt32} {x : Int32} (h : d.testBit i = true) : crF d f a x i = crF d f a x (i + 1) := (if_neg (fun q => by rw [h] at q; exact absurd q.1 (by decide))).symm
theorem crY {d i : Nat} {f a : Nat → UInt32} {x : Int32} (h : d.testBit i = false) (h2 : fsg (f i) * fsg (a i) < 0) : crF d f a x i + 1 = crF d f a x (i + 1) := (if_pos ⟨h, h2⟩).symm
theorem crN {d i : Nat} {f a : Nat → UInt32} {x : Int32} (_ : d.testBit i = false) (h2 : ¬ fsg (f i) * fsg (a i) < 0) : crF d f a x i = crF d f a x (i + 1) := (if_neg (fun q => h2 q.2)).symm
theorem g_ltN {x : Int32} (h : ¬ 0 ≤ x) : x < 0 := Int32.not_le.mp h
theorem g_geN {x : Int32} (h : 0 ≤ x) : ¬ x < 0 := Int32.not_lt.mpr h
/-- what a miss (b), or none, makes of the mode, missed, crossings, the run, the speeds -/
def drM (b : Bool) (mo ru : Int32) : Int32 := if b = true then (if ru + 1 < 3 then mo else 1) else mo
def drI (b : Bool) (mi : Int32) : Int32 := if b = true then mi + 1 else mi
def drC (b : Bool) (d : Nat) (f a : Nat → UInt32) (cr : Int32) : Int32 := if b = true then cr else crF d f a cr 4
def drR (b : Bool) (ru : Int32) : Int32 := if b = true then (if ru + 1 < 3 then ru + 1 else 0) else 0
def drF (b : Bool) (d : Nat) (f a : Nat → UInt32) : Nat → UInt32 := if b = true then f else amP d a f 4
def limF (v : UInt32) (m : Int32) : UInt32 := if fgt v (FP.i2f m) = true then FP.i2f m else if flt v (FP.i2f (-m)) = true then FP.i2f (-m) else v
theorem g_mglim {K : Nat} {v : UInt32} (m : Int32) (h : g_mg K v) (hk : 160 ≤ K) : g_mg K (limF v m) := by
  unfold limF
  split
  · exact g_mgW (g_mgi _) hk
  · split
    · exact g_mgW (g_mgi _) hk
    · exact h
/-- a coil's moment before its limit; a part of what the coils give; what a wheel gains -/
def coU (g : Int32) (y : Int32) (r : UInt32) (z : Int32) (q : UInt32) : UInt32 := FP.fdiv (FP.fmul (FP.i2f g) (FP.fsub (FP.fmul (FP.i2f y) r) (FP.fmul (FP.i2f z) q))) 1098907648
def coP (w : UInt32) (y : Int32) (v : UInt32) (z : Int32) : UInt32 := FP.fdiv (FP.fsub (FP.fmul w (FP.i2f y)) (FP.fmul v (FP.i2f z))) 1115684864
def gaF (b : Nat → Int32) (P Q R : UInt32) (i : Nat) : UInt32 := FP.fdiv (FP.fadd (FP.fadd (FP.fmul (FP.i2f (b (i * 3))) P) (FP.fmul (FP.i2f (b (i * 3 + 1))) Q)) (FP.fmul (FP.i2f (b (i * 3 + 2))) R)) 1082130432
def x3F (x y z : Int32) : Nat → Int32 := fun j => match j with
  | 0 => x
  | 1 => y
  | _ => z
theorem x3_3 (g : Nat → Int32) (x y z : Int32) : ∀ j, j < 3 → upd (upd (upd g 0 x) 1 y) 2 z j = x3F x y z j := by
  intro j hj
  rcases (show j = 0 ∨ j = 1 ∨ j = 2 by omega) with rfl | rfl | rfl <;> rfl
def tuF (b : Nat → Int32) (P Q R : UInt32) (f : Nat → UInt32) (top : Int32) : Nat → UInt32 := fun i => limF (FP.fadd (f i) (gaF b P Q R i)) top
theorem g_gt1 {n : Nat} (h : n < 5) (c : ¬ nI n ≤ 1) : 1 < n := by
  rcases Nat.lt_or_ge 1 n with q | q
  · exact q
  · exact absurd (nI_le q (by decide)) c
theorem g_le1 {n : Nat} (h : n < 5) (c : nI n ≤ 1) : ¬ 1 < n := fun q => nI_ge q (by omega) c
theorem g_pos9 {n : Nat} (h : n < 2 ^ 31) (c : ¬ nI n ≤ 0) : 0 < n := by
  rcases Nat.eq_zero_or_pos n with q | q
  · subst q
    exact absurd (by decide) c
  · exact q
theorem g_zero9 {n : Nat} (h : n < 2 ^ 31) (c : nI n ≤ 0) : n = 0 := by
  rcases Nat.eq_zero_or_pos n with q | q
  · exact q
  · exact absurd c (nI_nle q h)
/-- what the coils give the wheels -/
def cuU (fl : Nat → Int32) (n c : Nat) (f : Nat → UInt32) (t : Nat → Int32) : UInt32 := limF (coU (t 2) (cmF fl n c 1) (moF f 2) (cmF fl n c 2) (moF f 1)) (t 3)
def cuV (fl : Nat → Int32) (n c : Nat) (f : Nat → UInt32) (t : Nat → Int32) : UInt32 := limF (coU (t 2) (cmF fl n c 2) (moF f 0) (cmF fl n c 0) (moF f 2)) (t 3)
def cuW (fl : Nat → Int32) (n c : Nat) (f : Nat → UInt32) (t : Nat → Int32) : UInt32 := limF (coU (t 2) (cmF fl n c 0) (moF f 1) (cmF fl n c 1) (moF f 0)) (t 3)
theorem g_mgcoU (g y z : Int32) {r q : UInt32} (hr : g_mg 143 r) (hq : g_mg 143 q) : g_mg 210 (coU g y r z q) := by
  have a := g_mgmul (K := 177) (g_mgi y) hr (by decide) (by decide)
  have b := g_mgmul (K := 177) (g_mgi z) hq (by decide) (by decide)
  have c := g_mgsub (K := 177) a b (by decide) (by decide) (by decide)
  have d := g_mgmul (K := 213) (g_mgi g) c (by decide) (by decide)
  exact g_mgdiv (K := 210) (L := 131) d (by decide) (by decide) (by decide) (by decide)
theorem g_mgcu (fl : Nat → Int32) (n c : Nat) (f : Nat → UInt32) (t : Nat → Int32) (hf : ∀ j, j < 4 → g_mg 135 (f j)) : g_mg 210 (cuU fl n c f t) ∧ g_mg 210 (cuV fl n c f t) ∧ g_mg 210 (cuW fl n c f t) := by
  have h0 := g_mgmo hf (k := 0) (by decide)
  have h1 := g_mgmo hf (k := 1) (by decide)
  have h2 := g_mgmo hf (k := 2) (by decide)
  exact ⟨g_mglim _ (g_mgcoU _ _ _ h2 h1) (by decide), g_mglim _ (g_mgcoU _ _ _ h0 h2) (by decide), g_mglim _ (g_mgcoU _ _ _ h1 h0) (by decide)⟩
def ulF (b fl : Nat → Int32) (n c : Nat) (f : Nat → UInt32) (t : Nat → Int32) : Nat → UInt32 := tuF b (coP (cuW fl n c f t) (cmF fl n c 1) (cuV fl n c f t) (cmF fl n c 2)) (coP (cuU fl n c f t) (cmF fl n c 2) (cuW fl n c f t) (cmF fl n c 0)) (coP (cuV fl n c f t) (cmF fl n c 0) (cuU fl n c f t) (cmF fl n c 1)) f (t 0)
def clP (f : Nat → UInt32) (i : Nat) : Nat → UInt32 := fun j => if j < i then FP.fconst0 else f j
theorem cl_0 (f : Nat → UInt32) : f = clP f 0 := by
  funext j
  simp [clP]
theorem cl_step (f : Nat → UInt32) (i : Nat) : vf_upd (clP f i) i FP.fconst0 = clP f (i + 1) := by
  funext j
  simp only [vf_upd, clP]
  by_cases hj : j = i
  · subst hj
    simp
  · have : j < i ↔ j < i + 1 := by omega
    simp only [if_neg hj, this]
theorem cl_4 (f : Nat → UInt32) : ∀ j, j < 4 → clP f 4 j = FP.fconst0 := by
  intro j hj
  simp only [clP, if_pos hj]
end GSpec
