/-! MY ROWS 8: a contract over some cells is one over all of them -/
section GLift
def blkI : List (Nat × Nat) → List Nat
  | [] => []
  | p :: r => List.range' p.1 p.2 ++ blkI r
def blkG (ws : va_W) : List (Nat × Nat) → va_W
  | [] => []
  | p :: r => (ws.drop p.1).take p.2 ++ blkG ws r
def blkS : va_W → List (Nat × Nat) → va_W → va_W
  | ws, [], _ => ws
  | ws, p :: r, w => blkS (ws.take p.1 ++ (w.take p.2 ++ ws.drop (p.1 + p.2))) r (w.drop p.2)
def blkOk (n : Nat) : List (Nat × Nat) → Bool
  | [] => true
  | p :: r => decide (p.1 + p.2 ≤ n) && blkOk n r
def blkL : List (Nat × Nat) → Nat
  | [] => 0
  | p :: r => p.2 + blkL r
theorem blk_one (ws : va_W) (a n : Nat) (h : a + n ≤ ws.length) : (List.range' a n).map (fun i => ws[i]?) = ((ws.drop a).take n).map some := by
  apply List.ext_getElem?
  intro k
  rw [List.getElem?_map, List.getElem?_map, List.getElem?_take, List.getElem?_drop]
  by_cases hk : k < n
  · rw [if_pos hk, List.getElem?_range' hk]
    have hl : a + k < ws.length := by omega
    simp [List.getElem?_eq_getElem hl]
  · rw [if_neg hk, List.getElem?_eq_none (by rw [List.length_range']; omega)]
    rfl
theorem blk_get (ws : va_W) : ∀ bs : List (Nat × Nat), blkOk ws.length bs = true → (blkI bs).map (fun i => ws[i]?) = (blkG ws bs).map some
  | [], _ => rfl
  | p :: r, h => by
    have h2 : decide (p.1 + p.2 ≤ ws.length) = true ∧ blkOk ws.length r = true := Bool.and_eq_true_iff.mp h
    show (List.range' p.1 p.2 ++ blkI r).map _ = ((ws.drop p.1).take p.2 ++ blkG ws r).map some
    rw [List.map_append, List.map_append, blk_one ws p.1 p.2 (of_decide_eq_true h2.1), blk_get ws r h2.2]
theorem g_set_app : ∀ (i1 : List Nat) (c1 ws : va_W) (i2 : List Nat) (c2 : va_W), i1.length = c1.length → g_set ws (i1 ++ i2) (c1 ++ c2) = g_set (g_set ws i1 c1) i2 c2
  | [], [], _, _, _, _ => by simp [g_set]
  | [], _ :: _, _, _, _, h => by simp at h
  | _ :: _, [], _, _, _, h => by simp at h
  | i :: is, c :: cs, ws, i2, c2, h => g_set_app is cs (ws.set i c) i2 c2 (by simpa using h)
theorem blk_set : ∀ (bs : List (Nat × Nat)) (ws w : va_W), blkOk ws.length bs = true → blkL bs = w.length → g_set ws (blkI bs) w = blkS ws bs w
  | [], ws, w, _, h => by
    have : w = [] := List.length_eq_zero_iff.mp h.symm
    subst this
    rfl
  | p :: r, ws, w, h, hl => by
    have h2 : decide (p.1 + p.2 ≤ ws.length) = true ∧ blkOk ws.length r = true := Bool.and_eq_true_iff.mp h
    have h3 : p.1 + p.2 ≤ ws.length := of_decide_eq_true h2.1
    have hl' : p.2 + blkL r = w.length := hl
    have e1 : (w.take p.2).length = p.2 := by rw [List.length_take]; omega
    have e2 : g_set ws (List.range' p.1 p.2) (w.take p.2) = ws.take p.1 ++ (w.take p.2 ++ ws.drop (p.1 + p.2)) := by
      have la : (ws.take p.1).length = p.1 := by rw [List.length_take]; omega
      have ln : ((ws.drop p.1).take p.2).length = p.2 := by rw [List.length_take, List.length_drop]; omega
      have e : ws = ws.take p.1 ++ ((ws.drop p.1).take p.2 ++ ws.drop (p.1 + p.2)) := by
        rw [← List.drop_drop, List.take_append_drop, List.take_append_drop]
      have q := g_set_blk ((ws.drop p.1).take p.2) (w.take p.2) (ws.take p.1) (ws.drop (p.1 + p.2)) (by rw [ln, e1])
      rw [la, ln, ← e] at q
      exact q
    show g_set ws (List.range' p.1 p.2 ++ blkI r) w = blkS (ws.take p.1 ++ (w.take p.2 ++ ws.drop (p.1 + p.2))) r (w.drop p.2)
    have e3 : g_set ws (List.range' p.1 p.2 ++ blkI r) w = g_set ws (List.range' p.1 p.2 ++ blkI r) (w.take p.2 ++ w.drop p.2) := by rw [List.take_append_drop]
    rw [e3, g_set_app _ _ _ _ _ (by rw [List.length_range', e1]), e2]
    refine blk_set r _ _ ?_ ?_
    · rw [show (ws.take p.1 ++ (w.take p.2 ++ ws.drop (p.1 + p.2))).length = ws.length by simp only [List.length_append, List.length_take, List.length_drop]; omega]
      exact h2.2
    · rw [List.length_drop]; omega
theorem blk_sub {X : va_W} {bs : List (Nat × Nat)} {sz : Nat} (hok : blkOk X.length bs = true) : ∀ q, va_A (blkG X bs) sz q → va_A X sz q := by
  rintro q (⟨k, e, h⟩ | h)
  · have h3 := congrArg (fun l => l[k]?) (blk_get X bs hok)
    simp only [List.getElem?_map, h, Option.map_some] at h3
    cases hi : (blkI bs)[k]? with
    | none => rw [hi] at h3; simp at h3
    | some i =>
      rw [hi] at h3
      simp at h3
      exact Or.inl ⟨i, e, h3⟩
  · exact Or.inr h
theorem g_Pc_sub {D : va_G} {E : Nat → ClassId} {T : Nat → Nat} {av : List Value} {X : va_W} {bs : List (Nat × Nat)} {sz : Nat} {v : Array Value} {U : State} (hok : blkOk X.length bs = true) (hnd : va_nd (blkI bs) = true) (h : g_Pc D E T av X sz v U) : g_Pc D E T av (blkG X bs) sz v U := by
  obtain ⟨q0, q1, qP, qK, qD, qS, qN⟩ := h
  refine ⟨q0, q1, ?_, qK, qD.sub (blkI bs) hnd (blk_get X bs hok), qS.narrow (blk_sub hok), qN⟩
  intro k q hk
  have h3 := congrArg (fun l => l[k]?) (blk_get X bs hok)
  simp only [List.getElem?_map, hk, Option.map_some] at h3
  cases hi : (blkI bs)[k]? with
  | none => rw [hi] at h3; simp at h3
  | some i =>
    rw [hi] at h3
    simp at h3
    exact qP i q h3
/-- a contract over the blocks bs of the world X is one over X -/
theorem g_lift {l : Launch} {D : va_G} {E : Nat → ClassId} {T : Nat → Nat} {y : MethodName} {wy : List Cond} {fr lo : Nat} {av : List Value} {wc w1 X X' : va_W} {o : Option Value} (bs : List (Nat × Nat)) (hM : g_M l D E T y wy fr lo av wc w1 o) (hok : blkOk X.length bs = true) (hnd : va_nd (blkI bs) = true) (hG : blkG X bs = wc) (hlen : blkL bs = w1.length) (hS : blkS X bs w1 = X') (hadr : w1.map (fun q => q.1) = wc.map (fun q => q.1)) : g_M l D E T y wy fr lo av X X' o := by
  subst hG hS
  intro sz p e ha hc hk s m args below hf happ hP hK
  obtain ⟨n, oc, h1, h2, h3, ⟨⟨h4, h5⟩, h6⟩, L, h7, h8⟩ := hM sz p e ha hc hk s m args below hf happ (g_Pc_sub hok hnd hP) hK
  obtain ⟨q0, q1, qP, qK, qD, qS, qN⟩ := hP
  refine ⟨n, oc, h1, h2, h3, ⟨⟨h4, ?_⟩, h6.1, fun q g1 g2 => h6.2 q g1 (fun z => g2 (blk_sub hok q z))⟩, L, h7, fun q hq => blk_sub hok _ (h8 q hq)⟩
  rw [← blk_set bs X w1 hok hlen]
  refine g_set_P qP qD (blk_get X bs hok) hadr h5 (fun q g1 g2 => h6.2 q g1 ?_)
  rw [← q1]
  exact g2
theorem g_liftE {U V : Type} {l : Launch} {D : va_G} {E : Nat → ClassId} {T : Nat → Nat} {y : MethodName} {wy : List Cond} {fr lo : Nat} {av : List Value} {wc X : va_W} {w1 : U → va_W} {X' : V → va_W} {o : Option Value} (bs : List (Nat × Nat)) (f : U → V) (hM : g_ME l D E T y wy fr lo av wc w1 o) (hok : blkOk X.length bs = true) (hnd : va_nd (blkI bs) = true) (hG : blkG X bs = wc) (hlen : ∀ u, blkL bs = (w1 u).length) (hS : ∀ u, blkS X bs (w1 u) = X' (f u)) (hadr : ∀ u, (w1 u).map (fun q => q.1) = wc.map (fun q => q.1)) : g_ME l D E T y wy fr lo av X X' o := by
  subst hG
  intro sz p e ha hc hk s m args below hf happ hP hK
  obtain ⟨n, oc, h1, h2, h3, ⟨⟨h4, u, h5⟩, h6⟩, L, h7, h8⟩ := hM sz p e ha hc hk s m args below hf happ (g_Pc_sub hok hnd hP) hK
  obtain ⟨q0, q1, qP, qK, qD, qS, qN⟩ := hP
  refine ⟨n, oc, h1, h2, h3, ⟨⟨h4, f u, ?_⟩, h6.1, fun q g1 g2 => h6.2 q g1 (fun z => g2 (blk_sub hok q z))⟩, L, h7, fun q hq => blk_sub hok _ (h8 q hq)⟩
  rw [← hS u, ← blk_set bs X (w1 u) hok (hlen u)]
  refine g_set_P qP qD (blk_get X bs hok) (hadr u) h5 (fun q g1 g2 => h6.2 q g1 ?_)
  rw [← q1]
  exact g2
end GLift
