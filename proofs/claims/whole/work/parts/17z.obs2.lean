section GObs2
def xaB (nw nf : Nat) (fl x : Nat → Int32) (S : TS) (O9 : Nat → Nat × Nat × Nat × Bool) (i : Nat) : Nat → Bool
  | 0 => true
  | j + 1 => xaB nw nf fl x S O9 i j && decide (soF (O9 j).2.1 (O9 j).2.2.1 (sM (tkN nw nf fl x (skS S i) (O9 j).1)) (sI (tkN nw nf fl x (skS S i) (O9 j).1)) (sF (tkN nw nf fl x (skS S i) (O9 j).1)) = (O9 j).2.2.2)
theorem xa_s {nw nf : Nat} {fl x : Nat → Int32} {S : TS} {O9 : Nat → Nat × Nat × Nat × Bool} {i j c : Nat} (h : xaB nw nf fl x S O9 i j = true) (e : j = c) :
    decide (soF (O9 c).2.1 (O9 c).2.2.1 (sM (tkN nw nf fl x (skS S i) (O9 c).1)) (sI (tkN nw nf fl x (skS S i) (O9 c).1)) (sF (tkN nw nf fl x (skS S i) (O9 c).1)) = (O9 c).2.2.2) = xaB nw nf fl x S O9 i (j + 1) := by
  subst e
  rw [xaB, h, Bool.true_and]
theorem xa_f {nw nf : Nat} {fl x : Nat → Int32} {S : TS} {O9 : Nat → Nat × Nat × Nat × Bool} {i j : Nat} (h : xaB nw nf fl x S O9 i j = false) : ∀ k, xaB nw nf fl x S O9 i (j + k) = false
  | 0 => h
  | k + 1 => by
    show (xaB nw nf fl x S O9 i (j + k) && _) = false
    rw [xa_f h k, Bool.false_and]
theorem xa_fn {nw nf : Nat} {fl x : Nat → Int32} {S : TS} {O9 : Nat → Nat × Nat × Nat × Bool} {i j n : Nat} (h : xaB nw nf fl x S O9 i j = false) (hn : j ≤ n) : xaB nw nf fl x S O9 i j = xaB nw nf fl x S O9 i n := by
  rw [h]
  have := xa_f h (n - j)
  rw [show j + (n - j) = n by omega] at this
  exact this.symm
theorem sb16 : ∀ a, a < 16 → ∀ al, al < 16 → ((nI a &&& (nI al ^^^ (-1))) = 0 ↔ a &&& al = a) := by decide +kernel
/-- the worth of the sets of these wheels -/
def wgV (nw nf : Nat) (fl x : Nat → Int32) (S : TS) (a : Nat) : Int32 := 20 - clN nw nf fl x (lvS S a) 20
def wgP (nw nf : Nat) (fl x : Nat → Int32) (S : TS) (al : Nat) (g : Nat → Int32) (a : Nat) : Nat → Int32 := fun k => if k < a ∧ k &&& al = k then wgV nw nf fl x S k else g k
theorem wg_0 (nw nf : Nat) (fl x : Nat → Int32) (S : TS) (al : Nat) (g : Nat → Int32) : g = wgP nw nf fl x S al g 0 := by
  funext k
  simp only [wgP]
  rw [if_neg (by omega)]
theorem wg_s {nw nf : Nat} {fl x : Nat → Int32} {S : TS} {al : Nat} (g : Nat → Int32) {a : Nat} (h : a &&& al = a) : upd (wgP nw nf fl x S al g a) a (20 - clN nw nf fl x (lvS S a) 20) = wgP nw nf fl x S al g (a + 1) := by
  funext k
  simp only [upd, wgP]
  by_cases e : k = a
  · subst e
    rw [if_pos rfl, if_pos ⟨by omega, h⟩]
    rfl
  · rw [if_neg e]
    have : (k < a ∧ k &&& al = k) ↔ (k < a + 1 ∧ k &&& al = k) := by
      constructor
      · exact fun q => ⟨by omega, q.2⟩
      · exact fun q => ⟨by omega, q.2⟩
    simp only [this]
theorem wg_n {nw nf : Nat} {fl x : Nat → Int32} {S : TS} {al : Nat} (g : Nat → Int32) {a : Nat} (h : ¬ a &&& al = a) : wgP nw nf fl x S al g a = wgP nw nf fl x S al g (a + 1) := by
  funext k
  simp only [wgP]
  have : (k < a ∧ k &&& al = k) ↔ (k < a + 1 ∧ k &&& al = k) := by
    constructor
    · exact fun q => ⟨by omega, q.2⟩
    · intro q
      refine ⟨?_, q.2⟩
      rcases (show k < a ∨ k = a by omega) with z | rfl
      · exact z
      · exact absurd q.2 h
  simp only [this]
end GObs2
