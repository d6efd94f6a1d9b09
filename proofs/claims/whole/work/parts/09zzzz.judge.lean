section GJudge
def skS (S : TS) (i : Nat) : TS := (sF S, sT S, sW S, dIn (sD S) i, spM (dIn (sD S) i) (sM S), sP S, sI S, sC S, sA S, sR S, sK S)
def rvS (S : TS) (i : Nat) : TS := wD S (dOut (sD S) i)
def lvS (S : TS) (a : Nat) : TS := (sF S, sT S, sW S, 15 - a, spM (15 - a) (sM S), sP S, sI S, sC S, sA S, sR S, sK S)
def stS (S : TS) (k : Nat) (v : Int32) : TS := wT S (upd (sT S) k v)
theorem spM_ok {d : Nat} {m : Int32} (h : m = 0 ∨ m = 1) : spM d m = 0 ∨ spM d m = 1 := by
  unfold spM
  split
  · exact Or.inr rfl
  · exact h
theorem spM_pc {d : Nat} {m : Int32} (h : spM d m = 0) : pcn d ≤ 1 := by
  unfold spM at h
  split at h
  · exact absurd h (by decide)
  · omega
theorem OkS.sk {B : Nat} {S : TS} (h : OkS B S) {i : Nat} (hi : i < 4) : OkS B (skS S i) :=
  ⟨dIn_lt _ h.d i hi, spM_ok h.2.1, fun q => spM_pc q, h.2.2.2⟩
theorem dOut_pc : ∀ d, d < 16 → ∀ i, i < 4 → pcn (dOut d i) ≤ pcn d := by decide +kernel
theorem OkS.rv {B : Nat} {S : TS} (h : OkS B S) {i : Nat} (hi : i < 4) : OkS B (rvS S i) :=
  ⟨dOut_lt _ h.d i hi, h.2.1, fun q => Nat.le_trans (dOut_pc _ h.d i hi) (h.2.2.1 q), h.2.2.2⟩
theorem OkS.lv {B : Nat} {S : TS} (h : OkS B S) {a : Nat} (_ : a < 16) : OkS B (lvS S a) :=
  ⟨by show 15 - a < 16; omega, spM_ok h.2.1, fun q => spM_pc q, h.2.2.2⟩
theorem OkS.st {B : Nat} {S : TS} (h : OkS B S) {k : Nat} {v : Int32} (hk : k ≠ 0) : OkS B (stS S k v) :=
  ⟨h.1, h.2.1, h.2.2.1, h.2.2.2.1, h.2.2.2.2.1, h.2.2.2.2.2.1, h.2.2.2.2.2.2.1, by
    have e : sT (stS S k v) 0 = sT S 0 := if_neg (fun q => hk q.symm)
    rw [e]; exact h.2.2.2.2.2.2.2⟩
theorem out_43 {a : Nat} (h : a < 2 ^ 31) : outB (nI a) 0 3 = decide (3 < a) := by
  unfold outB
  have h1 : ¬ nI a < 0 := Int32.not_lt.mpr (nI_le (Nat.zero_le a) h)
  have h2 : (3 : Int32) < nI a ↔ 3 < a := nI_ltI (a := 3) (by decide) h
  by_cases q : 3 < a
  · rw [decide_eq_true (Or.inr (h2.mpr q)), decide_eq_true q]
  · rw [decide_eq_false (fun w => w.elim h1 (fun z => q (h2.mp z))), decide_eq_false q]
/-- statements on a trial state -/
def gpB (kd a c : Nat) (S : TS) : Bool :=
  if kd = 2 then decide (c = 0 ∧ ¬ 3 < a) && !(sD S).testBit a
  else if kd = 3 then decide (c = 0 ∧ ¬ 3 < a) && (sD S).testBit a
  else if kd = 4 then decide (a = 0 ∧ sM S = nI c)
  else if kd = 5 then decide (¬ 3 < a ∧ fsg (sF S a) = nI c - 1)
  else if kd = 6 then decide (a = 0) else false
def gpS (kd a c : Nat) (S : TS) : TS :=
  if gpB kd a c S = true then (if kd = 2 then skS S a else if kd = 3 then rvS S a else if kd = 6 then stS S 2 (nI c) else S) else S
theorem gpS_f {kd a c : Nat} {S : TS} (h : gpB kd a c S = false) : gpS kd a c S = S := if_neg (by rw [h]; decide)
theorem gpS_2 {kd a c : Nat} {S : TS} (h : gpB kd a c S = true) (k : kd = 2) : gpS kd a c S = skS S a := by rw [gpS, if_pos h, if_pos k]
theorem gpS_3 {kd a c : Nat} {S : TS} (h : gpB kd a c S = true) (k : kd = 3) : gpS kd a c S = rvS S a := by rw [gpS, if_pos h, if_neg (by omega), if_pos k]
theorem gpS_6 {kd a c : Nat} {S : TS} (h : gpB kd a c S = true) (k : kd = 6) : gpS kd a c S = stS S 2 (nI c) := by rw [gpS, if_pos h, if_neg (by omega), if_neg (by omega), if_pos k]
theorem gpS_o {kd a c : Nat} {S : TS} (h2 : ¬ kd = 2) (h3 : ¬ kd = 3) (h6 : ¬ kd = 6) : gpS kd a c S = S := by
  unfold gpS
  rw [if_neg h2, if_neg h3, if_neg h6]
  split <;> rfl
theorem gpB_2 {kd a c : Nat} {S : TS} (k : kd = 2) : gpB kd a c S = (decide (c = 0 ∧ ¬ 3 < a) && !(sD S).testBit a) := if_pos k
theorem gpB_3 {kd a c : Nat} {S : TS} (k : kd = 3) : gpB kd a c S = (decide (c = 0 ∧ ¬ 3 < a) && (sD S).testBit a) := by subst k; rfl
theorem gpB_4 {kd a c : Nat} {S : TS} (k : kd = 4) : gpB kd a c S = decide (a = 0 ∧ sM S = nI c) := by subst k; rfl
theorem gpB_5 {kd a c : Nat} {S : TS} (k : kd = 5) : gpB kd a c S = decide (¬ 3 < a ∧ fsg (sF S a) = nI c - 1) := by subst k; rfl
theorem gpB_6 {kd a c : Nat} {S : TS} (k : kd = 6) : gpB kd a c S = decide (a = 0) := by subst k; rfl
theorem gpB_o {kd a c : Nat} {S : TS} (h2 : ¬ kd = 2) (h3 : ¬ kd = 3) (h4 : ¬ kd = 4) (h5 : ¬ kd = 5) (h6 : ¬ kd = 6) : gpB kd a c S = false := by
  unfold gpB
  rw [if_neg h2, if_neg h3, if_neg h4, if_neg h5, if_neg h6]
def t1P (q : Nat) : Nat := if q % 10 = 0 ∧ 0 < q / 100 % 10 + q / 10 % 10 then 10 * (q / 100 % 10) + q / 10 % 10 else 0
def hdB (q : Nat) (S : TS) : Bool :=
  if q / 1000 = 1 then decide (q % 10 = 0 ∧ 0 < q / 100 % 10 + q / 10 % 10)
  else if q / 1000 = 7 then decide (q % 10 = 0 ∧ sI S = nI (10 * (q / 100 % 10) + q / 10 % 10))
  else decide (q / 10 % 10 = 0) && gpB (q / 1000) (q / 100 % 10) (q % 10) S
def hdS (nw nf : Nat) (fl x : Nat → Int32) (q : Nat) (S : TS) : TS :=
  if q / 1000 = 1 then tkN nw nf fl x S (t1P q)
  else if q / 1000 = 7 then S
  else if q / 10 % 10 = 0 then gpS (q / 1000) (q / 100 % 10) (q % 10) S else S
def hdJ (nw nf : Nat) (fl x : Nat → Int32) (q : Nat) (S : TS) (J : PJ) : PJ := if q / 1000 = 1 then jnN nw nf fl x S J (t1P q) else J
theorem OkS.gp {B : Nat} {S : TS} (h : OkS B S) (kd a c : Nat) : OkS B (gpS kd a c S) := by
  by_cases g : gpB kd a c S = true
  · by_cases k2 : kd = 2
    · rw [gpS_2 g k2]
      rw [gpB_2 k2] at g
      have := (of_decide_eq_true (Bool.and_eq_true_iff.mp g).1).2
      exact h.sk (by omega)
    · by_cases k3 : kd = 3
      · rw [gpS_3 g k3]
        rw [gpB_3 k3] at g
        have := (of_decide_eq_true (Bool.and_eq_true_iff.mp g).1).2
        exact h.rv (by omega)
      · by_cases k6 : kd = 6
        · rw [gpS_6 g k6]
          exact h.st (by decide)
        · rw [gpS_o k2 k3 k6]
          exact h
  · rw [gpS_f (Bool.eq_false_iff.mpr g)]
    exact h
theorem t1P_le {q : Nat} (_ : q < 10000) : t1P q ≤ 99 := by
  unfold t1P
  split <;> omega
theorem OkS.hd {B : Nat} {S : TS} (h : OkS B S) (nw nf : Nat) (fl x : Nat → Int32) {q : Nat} (hq : q < 10000) : OkS (B + 99) (hdS nw nf fl x q S) := by
  unfold hdS
  split
  · exact (h.tn nw nf fl x (t1P q)).up (by have := t1P_le hq; omega)
  · split
    · exact h.up (by omega)
    · split
      · exact (h.gp _ _ _).up (by omega)
      · exact h.up (by omega)
end GJudge
