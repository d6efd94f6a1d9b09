section GText
theorem nf_ltT {x y : Int32} {a b : Nat} (hx : x = nI a) (hy : y = nI b) (ha : a < 2 ^ 31) (hb : b < 2 ^ 31) (c : x < y) : a < b := by
  subst hx hy
  exact (nI_ltI ha hb).mp c
theorem nf_ltF {x y : Int32} {a b : Nat} (hx : x = nI a) (hy : y = nI b) (ha : a < 2 ^ 31) (hb : b < 2 ^ 31) (c : ¬ x < y) : b ≤ a := Nat.not_lt.mp (fun q => by
  subst hx hy
  exact c ((nI_ltI ha hb).mpr q))
theorem nf_geT {x y : Int32} {a b : Nat} (hx : x = nI a) (hy : y = nI b) (ha : a < 2 ^ 31) (hb : b < 2 ^ 31) (c : y ≤ x) : b ≤ a := by
  subst hx hy
  exact (nI_leI hb ha).mp c
theorem nf_geF {x y : Int32} {a b : Nat} (hx : x = nI a) (hy : y = nI b) (ha : a < 2 ^ 31) (hb : b < 2 ^ 31) (c : ¬ y ≤ x) : a < b := Nat.not_le.mp (fun q => by
  subst hx hy
  exact c ((nI_leI hb ha).mpr q))
theorem nf_gtT {x y : Int32} {a b : Nat} (hx : x = nI a) (hy : y = nI b) (ha : a < 2 ^ 31) (hb : b < 2 ^ 31) (c : x > y) : b < a := nf_ltT hy hx hb ha c
theorem nf_gtF {x y : Int32} {a b : Nat} (hx : x = nI a) (hy : y = nI b) (ha : a < 2 ^ 31) (hb : b < 2 ^ 31) (c : ¬ x > y) : a ≤ b := nf_ltF hy hx hb ha c
theorem nf_leT {x y : Int32} {a b : Nat} (hx : x = nI a) (hy : y = nI b) (ha : a < 2 ^ 31) (hb : b < 2 ^ 31) (c : x ≤ y) : a ≤ b := nf_geT hy hx hb ha c
theorem nf_leF {x y : Int32} {a b : Nat} (hx : x = nI a) (hy : y = nI b) (ha : a < 2 ^ 31) (hb : b < 2 ^ 31) (c : ¬ x ≤ y) : b < a := nf_geF hy hx hb ha c
theorem nf_eqT {x y : Int32} {a b : Nat} (hx : x = nI a) (hy : y = nI b) (ha : a < 2 ^ 31) (hb : b < 2 ^ 31) (c : x = y) : a = b := by
  subst hx hy
  exact (nI_eq ha hb).mp c
theorem nf_eqF {x y : Int32} {a b : Nat} (hx : x = nI a) (hy : y = nI b) (_ : a < 2 ^ 31) (_ : b < 2 ^ 31) (c : ¬ x = y) : ¬ a = b := fun q => c (by rw [hx, hy, q])
theorem nf_neT {x y : Int32} {a b : Nat} (hx : x = nI a) (hy : y = nI b) (ha : a < 2 ^ 31) (hb : b < 2 ^ 31) (c : ¬ x = y) : ¬ a = b := nf_eqF hx hy ha hb c
theorem nf_neF {x y : Int32} {a b : Nat} (hx : x = nI a) (hy : y = nI b) (ha : a < 2 ^ 31) (hb : b < 2 ^ 31) (c : x = y) : a = b := nf_eqT hx hy ha hb c
theorem b2i_1 {P : Prop} {h : Decidable P} (p : P) : b2i (decide P) = 1 := by simp [b2i, p]
theorem b2i_0 {P : Prop} {h : Decidable P} (p : ¬ P) : b2i (decide P) = 0 := by simp [b2i, p]
/-- the text's letters -/
def txF (tt : Nat → Nat) : Nat → Int32 := fun j => nI (tt j)
def tU (tt : Nat → Nat) (n k : Nat) : Nat → Nat := fun j => if j = n then k else tt j
theorem tx_U (tt : Nat → Nat) (n k : Nat) : upd (txF tt) n (nI k) = txF (tU tt n k) := by
  funext j
  simp only [upd, txF, tU]
  split <;> rfl
theorem nar_ch {k : Nat} (h : k < 65536) : vp_nar .char (nI k) = nI k := by
  rw [vp_nar_char]
  have := pk_char (nI k)
  have h2 : (nI k).toBitVec.toNat = k := pk_tn (by omega)
  have h3 : (nI k).toUInt32.toUInt16.toUInt32.toInt32 = ((nI k).toUInt32 % 65536).toInt32 := by
    apply Int32.toBitVec_inj.mp
    apply BitVec.eq_of_toNat_eq
    show ((nI k).toUInt32.toUInt16.toUInt32).toNat = ((nI k).toUInt32 % 65536).toNat
    simp
  rw [h3, this, h2, Nat.mod_eq_of_lt h]
/-- a letter that begins no part: is it as it should -/
abbrev fiP (a b : Nat) : Prop := (a = 0 ∧ b = 75) ∨ ((a = 1 ∨ a = 5) ∧ 49 ≤ b ∧ b ≤ 57) ∨ (a ≠ 0 ∧ a ≠ 1 ∧ a ≠ 5 ∧ ((6 ≤ a ∧ (a - 6) % 7 % 2 = 1 ∧ (b = 43 ∨ b = 45)) ∨ (¬ (6 ≤ a ∧ (a - 6) % 7 % 2 = 1) ∧ 48 ≤ b ∧ b ≤ 57)))
abbrev stP (a : Nat) : Prop := 6 ≤ a ∧ (a - 6) % 7 = 0
/-- how many commands, fields begin ahead of a place -/
def cwN (tt : Nat → Nat) : Nat → Nat
  | 0 => 0
  | a + 1 => if stP a ∧ tt a = 119 then cwN tt a + 1 else cwN tt a
def cfN (tt : Nat → Nat) : Nat → Nat
  | 0 => 0
  | a + 1 => if stP a ∧ tt a = 102 then cfN tt a + 1 else cfN tt a
theorem cw_1 {tt : Nat → Nat} {a : Nat} (h : stP a ∧ tt a = 119) : cwN tt a + 1 = cwN tt (a + 1) := (if_pos h).symm
theorem cw_0 {tt : Nat → Nat} {a : Nat} (h : ¬ (stP a ∧ tt a = 119)) : cwN tt a = cwN tt (a + 1) := (if_neg h).symm
theorem cf_1 {tt : Nat → Nat} {a : Nat} (h : stP a ∧ tt a = 102) : cfN tt a + 1 = cfN tt (a + 1) := (if_pos h).symm
theorem cf_0 {tt : Nat → Nat} {a : Nat} (h : ¬ (stP a ∧ tt a = 102)) : cfN tt a = cfN tt (a + 1) := (if_neg h).symm
theorem cw_le (tt : Nat → Nat) : ∀ a, cwN tt a ≤ a
  | 0 => Nat.le_refl 0
  | a + 1 => by
    have := cw_le tt a
    unfold cwN
    split <;> omega
theorem cf_le (tt : Nat → Nat) : ∀ a, cfN tt a ≤ a
  | 0 => Nat.le_refl 0
  | a + 1 => by
    have := cf_le tt a
    unfold cfN
    split <;> omega
/-- whether a place is as it should, whatever follows -/
abbrev okP (tt : Nat → Nat) (a : Nat) : Prop := (stP a ∧ ((tt a = 119 ∧ cwN tt a < 6) ∨ (tt a = 102 ∧ cfN tt a < 6))) ∨ (¬ stP a ∧ fiP a (tt a))
def okB (tt : Nat → Nat) (a : Nat) : Bool := decide (okP tt a)
/-- the first place that is not -/
def fbN (tt : Nat → Nat) : Nat → Option Nat
  | 0 => none
  | a + 1 => match fbN tt a with
    | some k => some k
    | none => if okB tt a = true then none else some a
def ftF (tt : Nat → Nat) (len : Nat) : Int32 := match fbN tt len with
  | some k => nI k
  | none => if 6 ≤ len ∧ (len - 6) % 7 = 0 then -9 else nI len
theorem fb_none {tt : Nat → Nat} : ∀ {a : Nat}, (∀ j, j < a → okB tt j = true) → fbN tt a = none
  | 0, _ => rfl
  | a + 1, h => by
    unfold fbN
    rw [fb_none (fun j hj => h j (by omega))]
    simp only
    rw [if_pos (h a (by omega))]
theorem fb_some {tt : Nat → Nat} {k : Nat} (h : ∀ j, j < k → okB tt j = true) (hk : okB tt k = false) : ∀ {a : Nat}, k < a → fbN tt a = some k
  | 0, q => absurd q (by omega)
  | a + 1, q => by
    unfold fbN
    rcases Nat.lt_or_ge k a with z | z
    · rw [fb_some h hk z]
    · have e : a = k := by omega
      subst e
      rw [fb_none h]
      simp only
      rw [if_neg (by rw [hk]; decide)]
theorem fb_all {tt : Nat → Nat} : ∀ {a : Nat}, fbN tt a = none → ∀ j, j < a → okB tt j = true
  | 0, _, j, q => absurd q (by omega)
  | a + 1, h, j, q => by
    unfold fbN at h
    cases e : fbN tt a with
    | some k => rw [e] at h; simp at h
    | none =>
      rw [e] at h
      simp only at h
      by_cases c : okB tt a = true
      · rcases (show j < a ∨ j = a by omega) with z | rfl
        · exact fb_all e j z
        · exact c
      · rw [if_neg c] at h
        simp at h
theorem ft_bad {tt : Nat → Nat} {k len : Nat} (h : ∀ j, j < k → okB tt j = true) (hk : ¬ okP tt k) (hl : k < len) : ftF tt len = nI k := by
  unfold ftF
  rw [fb_some h (decide_eq_false hk) hl]
theorem ft_9 {tt : Nat → Nat} {len : Nat} (h : ∀ j, j < len → okB tt j = true) (h2 : stP len) : ftF tt len = -9 := by
  unfold ftF
  rw [fb_none h]
  exact if_pos h2
theorem ft_len {tt : Nat → Nat} {len : Nat} (h : ∀ j, j < len → okB tt j = true) (h2 : ¬ stP len) : ftF tt len = nI len := by
  unfold ftF
  rw [fb_none h]
  exact if_neg h2
theorem all_s {tt : Nat → Nat} {a : Nat} (h : ∀ j, j < a → okB tt j = true) (h2 : okP tt a) : ∀ j, j < a + 1 → okB tt j = true := by
  intro j hj
  rcases (show j < a ∨ j = a by omega) with z | rfl
  · exact h j z
  · exact decide_eq_true h2
/-- a digit, a number of three -/
def dgF (tt : Nat → Nat) (k : Nat) : Int32 := nI (tt k) - 48
def trF (tt : Nat → Nat) (a k : Nat) : Int32 := if tt (a + 2 * k) = 45 then -(dgF tt (a + 2 * k + 1)) else dgF tt (a + 2 * k + 1)
def rtP (g : Nat → Int32) (tt : Nat → Nat) (a row i : Nat) : Nat → Int32 := fun j => if row * 3 ≤ j ∧ j < row * 3 + i then trF tt a (j - row * 3) else g j
theorem rt_0 (g : Nat → Int32) (tt : Nat → Nat) (a row : Nat) : g = rtP g tt a row 0 := by
  funext j
  have : ¬ (row * 3 ≤ j ∧ j < row * 3 + 0) := by omega
  simp only [rtP, if_neg this]
theorem rt_s (g : Nat → Int32) (tt : Nat → Nat) (a row i : Nat) {v : Int32} (h : v = trF tt a i) : upd (rtP g tt a row i) (row * 3 + i) v = rtP g tt a row (i + 1) := by
  funext j
  simp only [upd, rtP]
  by_cases hj : j = row * 3 + i
  · subst hj
    have h1 : row * 3 ≤ row * 3 + i ∧ row * 3 + i < row * 3 + (i + 1) := by omega
    have h2 : row * 3 + i - row * 3 = i := by omega
    rw [if_pos rfl, if_pos h1, h2, h]
  · have : (row * 3 ≤ j ∧ j < row * 3 + i) ↔ (row * 3 ≤ j ∧ j < row * 3 + (i + 1)) := by omega
    simp only [if_neg hj, this]
/-- the commands, the fields behind m parts -/
def wtN (tt : Nat → Nat) (g : Nat → Int32) : Nat → Nat → Int32
  | 0 => g
  | m + 1 => if tt (6 + 7 * m) = 119 then rtP (wtN tt g m) tt (6 + 7 * m + 1) (cwN tt (6 + 7 * m)) 3 else wtN tt g m
def flN (tt : Nat → Nat) (g : Nat → Int32) : Nat → Nat → Int32
  | 0 => g
  | m + 1 => if tt (6 + 7 * m) = 102 then rtP (flN tt g m) tt (6 + 7 * m + 1) (cfN tt (6 + 7 * m)) 3 else flN tt g m
/-- the settings of a text -/
def seF (tt : Nat → Nat) : Nat → Int32 := fun j => match j with
  | 0 => dgF tt 1 * 10 + dgF tt 2
  | 1 => dgF tt 3
  | 2 => dgF tt 4
  | _ => dgF tt 5
theorem se_4 (g : Nat → Int32) (tt : Nat → Nat) : ∀ j, j < 4 → upd (upd (upd (upd g 0 (dgF tt 1 * 10 + dgF tt 2)) 1 (dgF tt 3)) 2 (dgF tt 4)) 3 (dgF tt 5) j = seF tt j
  | 0, _ => rfl
  | 1, _ => rfl
  | 2, _ => rfl
  | 3, _ => rfl
  | j + 4, h => absurd h (by omega)
theorem cw_6 (tt : Nat → Nat) : cwN tt 6 = 0 := by simp [cwN, stP]
theorem cf_6 (tt : Nat → Nat) : cfN tt 6 = 0 := by simp [cfN, stP]
theorem cw_7 (tt : Nat → Nat) (m : Nat) : cwN tt (6 + 7 * (m + 1)) = if tt (6 + 7 * m) = 119 then cwN tt (6 + 7 * m) + 1 else cwN tt (6 + 7 * m) := by
  have z : ∀ k, k < 6 → cwN tt (6 + 7 * m + (k + 1) + 1) = cwN tt (6 + 7 * m + (k + 1)) := fun k hk => (cw_0 (by unfold stP; omega)).symm
  have e : 6 + 7 * (m + 1) = 6 + 7 * m + (5 + 1) + 1 := by omega
  rw [e, z 5 (by omega), z 4 (by omega), z 3 (by omega), z 2 (by omega), z 1 (by omega), z 0 (by omega)]
  by_cases q : tt (6 + 7 * m) = 119
  · rw [if_pos q]; exact (cw_1 ⟨by unfold stP; omega, q⟩).symm
  · rw [if_neg q]; exact (cw_0 (fun w => q w.2)).symm
theorem cf_7 (tt : Nat → Nat) (m : Nat) : cfN tt (6 + 7 * (m + 1)) = if tt (6 + 7 * m) = 102 then cfN tt (6 + 7 * m) + 1 else cfN tt (6 + 7 * m) := by
  have z : ∀ k, k < 6 → cfN tt (6 + 7 * m + (k + 1) + 1) = cfN tt (6 + 7 * m + (k + 1)) := fun k hk => (cf_0 (by unfold stP; omega)).symm
  have e : 6 + 7 * (m + 1) = 6 + 7 * m + (5 + 1) + 1 := by omega
  rw [e, z 5 (by omega), z 4 (by omega), z 3 (by omega), z 2 (by omega), z 1 (by omega), z 0 (by omega)]
  by_cases q : tt (6 + 7 * m) = 102
  · rw [if_pos q]; exact (cf_1 ⟨by unfold stP; omega, q⟩).symm
  · rw [if_neg q]; exact (cf_0 (fun w => q w.2)).symm
theorem ok_st {tt : Nat → Nat} {m : Nat} (h : okB tt (6 + 7 * m) = true) : (tt (6 + 7 * m) = 119 ∧ cwN tt (6 + 7 * m) < 6) ∨ (tt (6 + 7 * m) = 102 ∧ cfN tt (6 + 7 * m) < 6) := by
  have k : okP tt (6 + 7 * m) := of_decide_eq_true h
  rcases k with k | k
  · exact k.2
  · exact absurd (show stP (6 + 7 * m) by unfold stP; omega) k.1
theorem cw7_w {tt : Nat → Nat} {m : Nat} (q : tt (6 + 7 * m) = 119) : cwN tt (6 + 7 * m) + 1 = cwN tt (6 + 7 * (m + 1)) := by rw [cw_7, if_pos q]
theorem cw7_f {tt : Nat → Nat} {m : Nat} (q : tt (6 + 7 * m) = 102) : cwN tt (6 + 7 * m) = cwN tt (6 + 7 * (m + 1)) := by rw [cw_7, if_neg (by omega)]
theorem cf7_f {tt : Nat → Nat} {m : Nat} (q : tt (6 + 7 * m) = 102) : cfN tt (6 + 7 * m) + 1 = cfN tt (6 + 7 * (m + 1)) := by rw [cf_7, if_pos q]
theorem cf7_w {tt : Nat → Nat} {m : Nat} (q : tt (6 + 7 * m) = 119) : cfN tt (6 + 7 * m) = cfN tt (6 + 7 * (m + 1)) := by rw [cf_7, if_neg (by omega)]
theorem wt_w {tt : Nat → Nat} {g : Nat → Int32} {m : Nat} (q : tt (6 + 7 * m) = 119) : rtP (wtN tt g m) tt (6 + 7 * m + 1) (cwN tt (6 + 7 * m)) 3 = wtN tt g (m + 1) := (if_pos q).symm
theorem wt_f {tt : Nat → Nat} {g : Nat → Int32} {m : Nat} (q : tt (6 + 7 * m) = 102) : wtN tt g m = wtN tt g (m + 1) := (if_neg (by omega)).symm
theorem fl_f {tt : Nat → Nat} {g : Nat → Int32} {m : Nat} (q : tt (6 + 7 * m) = 102) : rtP (flN tt g m) tt (6 + 7 * m + 1) (cfN tt (6 + 7 * m)) 3 = flN tt g (m + 1) := (if_pos q).symm
theorem fl_w {tt : Nat → Nat} {g : Nat → Int32} {m : Nat} (q : tt (6 + 7 * m) = 119) : flN tt g m = flN tt g (m + 1) := (if_neg (by omega)).symm
end GText
