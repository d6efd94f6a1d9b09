section GFirst
/-- all cells anew, each in its place -/
theorem g_set_pre : ∀ (ws w pre : va_W), ws.length = w.length → g_set (pre ++ ws) (List.range' pre.length ws.length) w = pre ++ w
  | [], [], pre, _ => by simp [g_set]
  | [], _ :: _, _, h => by simp at h
  | _ :: _, [], _, h => by simp at h
  | a :: ws, c :: w, pre, h => by
    have ih := g_set_pre ws w (pre ++ [c]) (by simpa using h)
    have e : (pre ++ a :: ws).set pre.length c = (pre ++ [c]) ++ ws := by simp [List.set_append]
    show g_set ((pre ++ a :: ws).set pre.length c) (List.range' (pre.length + 1) ws.length) w = _
    rw [e]
    have l : (pre ++ [c]).length = pre.length + 1 := by simp
    rw [l] at ih
    rw [ih]
    simp
theorem g_sid {D : va_G} {A : Nat → Prop} {s : State} {H : Heap} {locs : List Loc} {ws w : va_W} {n : Nat} {is : List Nat} (hl : ws.length = n) (hl2 : w.length = n) (hi : is = List.range' 0 n) (hw : g_W D A s (g_set ws is w) H locs) : g_W D A s w H locs := by
  subst hl hi
  have := g_set_pre ws w [] hl2.symm
  rw [List.nil_append] at this
  rw [show ([] : va_W).length = 0 from rfl] at this
  rw [this] at hw
  exact hw
/-- the first below n -/
def sfN (P : Nat → Bool) : Nat → Option Nat
  | 0 => none
  | a + 1 => match sfN P a with
    | some k => some k
    | none => if P a = true then some a else none
def sfI (P : Nat → Bool) (n : Nat) : Int32 := match sfN P n with
  | some k => nI k
  | none => -9
theorem sf_none {P : Nat → Bool} : ∀ {n : Nat}, (∀ j, j < n → P j = false) → sfN P n = none
  | 0, _ => rfl
  | n + 1, h => by
    unfold sfN
    rw [sf_none (fun j hj => h j (by omega))]
    simp only
    rw [if_neg (by rw [h n (by omega)]; decide)]
theorem sf_some {P : Nat → Bool} {k : Nat} (h : ∀ j, j < k → P j = false) (hk : P k = true) : ∀ {n : Nat}, k < n → sfN P n = some k
  | 0, q => absurd q (by omega)
  | n + 1, q => by
    unfold sfN
    rcases Nat.lt_or_ge k n with z | z
    · rw [sf_some h hk z]
    · have e : n = k := by omega
      subst e
      rw [sf_none h]
      simp only
      rw [if_pos hk]
theorem sfI_none {P : Nat → Bool} {n : Nat} (h : ∀ j, j < n → P j = false) : sfI P n = -9 := by
  unfold sfI
  rw [sf_none h]
theorem sfI_some {P : Nat → Bool} {n k : Nat} (h : ∀ j, j < k → P j = false) (hk : P k = true) (hn : k < n) : sfI P n = nI k := by
  unfold sfI
  rw [sf_some h hk hn]
theorem all_f {P : Nat → Bool} {a : Nat} (h : ∀ j, j < a → P j = false) (h2 : P a = false) : ∀ j, j < a + 1 → P j = false := by
  intro j hj
  rcases (show j < a ∨ j = a by omega) with z | rfl
  · exact h j z
  · exact h2
/-- ticks till the spacecraft spins -/
def spA (nw nf : Nat) (fl x : Nat → Int32) (S : TS) : Nat → Bool := fun j => decide (sM (tkN nw nf fl x S j) = 1)
/-- statements, one behind the other -/
def stN (n row i : Nat) : Nat := row / 10000 ^ (n - 1 - i) % 10000
def jdS (nw nf : Nat) (fl x : Nat → Int32) (n row : Nat) (S : TS) : Nat → TS
  | 0 => S
  | i + 1 => hdS nw nf fl x (stN n row i) (jdS nw nf fl x n row S i)
def jdB (nw nf : Nat) (fl x : Nat → Int32) (n row : Nat) (S : TS) : Nat → Bool := fun i => !hdB (stN n row i) (jdS nw nf fl x n row S i)
theorem stN_lt (n row i : Nat) : stN n row i < 10000 := Nat.mod_lt _ (by decide)
theorem OkS.jd {B : Nat} {S : TS} (h : OkS B S) (nw nf : Nat) (fl x : Nat → Int32) (n row : Nat) : ∀ i, OkS (B + 99 * i) (jdS nw nf fl x n row S i)
  | 0 => h
  | i + 1 => (OkS.hd (OkS.jd h nw nf fl x n row i) nw nf fl x (stN_lt n row i)).up (by omega)
/-- who it may be -/
def wcA (nw nf : Nat) (fl x : Nat → Int32) (S : TS) (O9 : Nat → Nat × Nat × Nat × Bool) (cn : Nat) : Nat → Int32
  | 0 => 0
  | i + 1 => if (sD S).testBit i = false ∧ xaB nw nf fl x S O9 i cn = true then wcA nw nf fl x S O9 cn i ||| (1 <<< (nI i &&& 31)) else wcA nw nf fl x S O9 cn i
/-- the wheel whose loss costs most -/
def woL (nw nf : Nat) (fl x : Nat → Int32) (S : TS) (i : Nat) : Int32 := clN nw nf fl x (skS S i) 20
def woA (nw nf : Nat) (fl x : Nat → Int32) (S : TS) : Nat → Int32 × Int32
  | 0 => (-9, -1)
  | i + 1 => if (sD S).testBit i = false ∧ (woA nw nf fl x S i).2 < woL nw nf fl x S i then (nI i, woL nw nf fl x S i) else woA nw nf fl x S i
/-- the gain that unloads best -/
def duT (nw nf : Nat) (fl x : Nat → Int32) (S : TS) (g : Nat) : TS := tkN nw nf fl x (stS S 2 (nI g)) 12
def duZ (nw nf : Nat) (fl x : Nat → Int32) (S : TS) (g : Nat) : UInt32 := FP.fadd (FP.fadd (fsz (moF (sF (duT nw nf fl x S g)) 0)) (fsz (moF (sF (duT nw nf fl x S g)) 1))) (fsz (moF (sF (duT nw nf fl x S g)) 2))
def duA (nw nf : Nat) (fl x : Nat → Int32) (S : TS) : Nat → Nat × UInt32
  | 0 => (0, FP.fconst0)
  | g + 1 => if g = 0 ∨ flt (duZ nw nf fl x S g) (duA nw nf fl x S g).2 = true then (g, duZ nw nf fl x S g) else duA nw nf fl x S g
end GFirst
section GFree
def frS (S : TS) : TS := (sF S, sT S, sW S, sD S, 0, FP.fconst0, sI S, sC S, sA S, 0, sK S)
def wnS (S : TS) (r : Nat) (a b c : Int32) : TS := wW S (upd (upd (upd (sW S) (r * 3) a) (r * 3 + 1) b) (r * 3 + 2) c)
end GFree
