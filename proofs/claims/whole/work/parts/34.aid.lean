/-! MY ROWS: what the steps ask for -/
section GAid
theorem nI_back {v : Int32} (h : 0 ≤ v) : nI v.toNatClampNeg = v := by
  have h0 : (0 : Int) ≤ v.toInt := by
    have := Int32.le_iff_toInt_le.mp h
    simpa using this
  have h1 := v.toInt_lt
  apply Int32.toInt_inj.mp
  have e : v.toNatClampNeg = v.toInt.toNat := rfl
  rw [e, nI_ti (by omega)]
  omega
theorem nI_ex {v : Int32} (h : 0 ≤ v) : ∃ k : Nat, k < 2 ^ 31 ∧ v = nI k := by
  refine ⟨v.toNatClampNeg, ?_, (nI_back h).symm⟩
  have h1 := v.toInt_lt
  have e : v.toNatClampNeg = v.toInt.toNat := rfl
  omega
theorem ft_9inv {tt : Nat → Nat} {len : Nat} (hl : len ≤ 120) (h : ftF tt len = -9) : (∀ j, j < len → okB tt j = true) ∧ 6 ≤ len ∧ (len - 6) % 7 = 0 := by
  have neg : ∀ k : Nat, k ≤ 120 → ¬ nI k = -9 := fun k hk z => by
    have q : (0 : Int32) ≤ nI k := nI_le (Nat.zero_le k) (by omega)
    rw [z] at q
    exact absurd q (by decide)
  unfold ftF at h
  cases e : fbN tt len with
  | some k =>
    rw [e] at h
    have := fb_lt e
    exact absurd h (neg k (by omega))
  | none =>
    rw [e] at h
    simp only at h
    by_cases c : 6 ≤ len ∧ (len - 6) % 7 = 0
    · exact ⟨fb_all e, c⟩
    · rw [if_neg c] at h
      exact absurd h (neg len hl)
theorem part_le {tt : Nat → Nat} {n : Nat} (hall : ∀ j, j < 6 + 7 * n → okB tt j = true) : ∀ {m : Nat}, m ≤ n → cwN tt (6 + 7 * m) + cfN tt (6 + 7 * m) = m ∧ cwN tt (6 + 7 * m) ≤ 6 ∧ cfN tt (6 + 7 * m) ≤ 6
  | 0, _ => by
    rw [Nat.mul_zero, cw_6, cf_6]
    omega
  | m + 1, h => by
    have ih := part_le hall (m := m) (by omega)
    rcases ok_st (hall (6 + 7 * m) (by omega)) with q | q
    · rw [← cw7_w q.1, ← cf7_w q.1]
      omega
    · rw [← cw7_f q.1, ← cf7_f q.1]
      omega
theorem dig_ok : ∀ a, a < 58 → 49 ≤ a → ∀ b, b < 58 → 48 ≤ b → 10 ≤ ((nI a - 48) * 10 + (nI b - 48)).toInt ∧ ((nI a - 48) * 10 + (nI b - 48)).toInt ≤ 99 := by decide +kernel
theorem OkS.cft {B : Nat} {tt : Nat → Nat} (S : TS) {n : Nat} (hall : ∀ j, j < 6 + 7 * n → okB tt j = true) (ht : ∀ j, tt j < 256) : OkS B (cftS tt S n) := by
  have k : ∀ j, j < 6 → fiP j (tt j) := fun j hj => (of_decide_eq_true (hall j (by omega)) : okP tt j).elim (fun z => by have := z.1; unfold stP at this; omega) (fun z => z.2)
  have k1 := k 1 (by omega)
  have k2 := k 2 (by omega)
  unfold fiP at k1 k2
  have d := dig_ok (tt 1) (by omega) (by omega) (tt 2) (by omega) (by omega)
  refine ⟨by show (0 : Nat) < 16; omega, Or.inl rfl, fun _ => by show pcn 0 ≤ 1; decide, Or.inl rfl, fun j _ => ⟨by show g_mg 135 FP.fconst0; exact g_mgW g_mgc0 (by decide), by show FP.fconst0 ≠ nz; decide⟩, by show FP.fconst0 ∈ spL; decide +kernel, Nat.zero_le _, d.1, d.2⟩
theorem OkS.ini (B : Nat) : OkS B iniS := ⟨by show (0 : Nat) < 16; omega, Or.inl rfl, fun _ => by show pcn 0 ≤ 1; decide, Or.inl rfl, fun j _ => ⟨by show g_mg 135 FP.fconst0; exact g_mgW g_mgc0 (by decide), by show FP.fconst0 ≠ nz; decide⟩, by show FP.fconst0 ∈ spL; decide +kernel, Nat.zero_le _, by decide, by decide⟩
theorem OkS.frs {B : Nat} {S : TS} (h : OkS B S) (hp : pcn (sD S) ≤ 1) : OkS B (frS S) := ⟨h.1, Or.inl rfl, fun _ => hp, Or.inl rfl, h.2.2.2.2.1, by show FP.fconst0 ∈ spL; decide +kernel, h.2.2.2.2.2.2⟩
theorem OkS.sts {B : Nat} {S : TS} {k : Nat} {v : Int32} (h : OkS B S) (hk : k ≤ 3) (ho : outB v (g_tv 3 k) (g_tv 4 k) = false) : OkS B (stS S k v) := by
  rcases Nat.eq_zero_or_pos k with z | z
  · subst z
    obtain ⟨h1, h2⟩ := out_ok ho
    have a1 := Int32.le_iff_toInt_le.mp h1
    have a2 := Int32.le_iff_toInt_le.mp h2
    exact ⟨h.1, h.2.1, h.2.2.1, h.2.2.2.1, h.2.2.2.2.1, h.2.2.2.2.2.1, h.2.2.2.2.2.2.1, by show 10 ≤ v.toInt; exact a1, by show v.toInt ≤ 99; exact a2⟩
  · exact h.st (by omega)
theorem told_ag {nw nf : Nat} {S : TS} {w fl fl9 : Nat → Int32} {ww : Bool} {r9 q : Nat} (hw : agW nw (sW S) w) (hf : agW nf fl fl9) (h1 : ww = true → r9 < nw) (h2 : ww = false → r9 < nf) (hq : q ≤ 2) : (if ww = true then sW (wW S w) (r9 * 3 + q) else fl9 (r9 * 3 + q)) = if ww = true then sW S (r9 * 3 + q) else fl (r9 * 3 + q) := by
  cases ww with
  | true =>
    have := h1 rfl
    rw [if_pos rfl, if_pos rfl]
    exact hw _ (by omega)
  | false =>
    have := h2 rfl
    rw [if_neg (by decide), if_neg (by decide)]
    exact hf _ (by omega)
theorem agW.upd {n : Nat} {w w' : Nat → Int32} (h : agW n w w') (k : Nat) (v : Int32) : agW n (upd w k v) (upd w' k v) := by
  intro j hj
  show (if j = k then v else w' j) = (if j = k then v else w j)
  split
  · rfl
  · exact h j hj
theorem row_n {n : Nat} {x : Int64} (h1 : 1 ≤ n) (h : n ≤ 3) (a : ¬ lg_cmp x 0 < 0) (b : lg_cmp x (rwF n) < 0) : ∃ r9 : Nat, r9 < 2 ^ 62 ∧ x = lN r9 := by
  have k1 := (lg_cmp_ge x 0).mp (Int32.not_lt.mp a)
  have k2 : ¬ rwF n ≤ x := fun z => Int32.not_le.mpr b ((lg_cmp_ge x (rwF n)).mpr z)
  rw [Int64.le_iff_toInt_le] at k1 k2
  have e0 : (0 : Int64).toInt = 0 := by decide
  have e1 : (rwF n).toInt ≤ 1000000000000 := by
    rcases (show n = 1 ∨ n = 2 ∨ n = 3 by omega) with rfl | rfl | rfl <;> decide
  refine ⟨x.toInt.toNat, by omega, ?_⟩
  apply Int64.toInt_inj.mp
  show x.toInt = (Int64.ofNat x.toInt.toNat).toInt
  rw [Int64.toInt_ofNat_of_lt (by omega)]
  omega
theorem grN_le {k : Nat} (h : k ≤ 2) : grN k ≤ 99 := by
  rcases (show k = 0 ∨ k = 1 ∨ k = 2 by omega) with rfl | rfl | rfl <;> decide
theorem obP.upd {O9 : Nat → Nat × Nat × Nat × Bool} (h : obP O9) {p j k q : Nat} {s : Bool} (hj : j ≤ 9) (hk : k ≤ 2) (hq : q ≤ 99) (h3 : k = 2 → q < 4) : obP (fun i => if i = p then (j, k, q, s) else O9 i) := by
  intro i
  by_cases c : i = p
  · simp only [if_pos c]
    exact ⟨hj, hk, hq, h3⟩
  · simp only [if_neg c]
    exact h i
theorem o9_1 {O9 : Nat → Nat × Nat × Nat × Bool} {p j k q : Nat} (s : Bool) : upd (fun yy => nI (O9 yy).1) p (nI j) = fun yy => nI ((fun i => if i = p then (j, k, q, s) else O9 i) yy).1 := by
  funext yy
  show (if yy = p then nI j else nI (O9 yy).1) = nI (if yy = p then (j, k, q, s) else O9 yy).1
  split <;> rfl
theorem o9_2 {O9 : Nat → Nat × Nat × Nat × Bool} {p j k q : Nat} (s : Bool) : upd (fun yy => nI (O9 yy).2.1) p (nI k) = fun yy => nI ((fun i => if i = p then (j, k, q, s) else O9 i) yy).2.1 := by
  funext yy
  show (if yy = p then nI k else nI (O9 yy).2.1) = nI (if yy = p then (j, k, q, s) else O9 yy).2.1
  split <;> rfl
theorem o9_3 {O9 : Nat → Nat × Nat × Nat × Bool} {p j k q : Nat} (s : Bool) : upd (fun yy => nI (O9 yy).2.2.1) p (nI q) = fun yy => nI ((fun i => if i = p then (j, k, q, s) else O9 i) yy).2.2.1 := by
  funext yy
  show (if yy = p then nI q else nI (O9 yy).2.2.1) = nI (if yy = p then (j, k, q, s) else O9 yy).2.2.1
  split <;> rfl
theorem o9_4 {O9 : Nat → Nat × Nat × Nat × Bool} {p j k q s : Nat} (hs : s ≤ 1) : upd (fun yy => b2i (O9 yy).2.2.2) p (nI s) = fun yy => b2i ((fun i => if i = p then (j, k, q, decide (nI s = 1)) else O9 i) yy).2.2.2 := by
  funext yy
  show (if yy = p then nI s else b2i (O9 yy).2.2.2) = b2i (if yy = p then (j, k, q, decide (nI s = 1)) else O9 yy).2.2.2
  have e : nI s = b2i (decide (nI s = 1)) := by
    rcases (show s = 0 ∨ s = 1 by omega) with rfl | rfl <;> decide
  split
  · exact e
  · rfl
end GAid
