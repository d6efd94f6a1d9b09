section GSet
/-- a block of cells anew, each in its place -/
theorem g_set_blk : ∀ (ws w pre post : va_W), ws.length = w.length → g_set (pre ++ (ws ++ post)) (List.range' pre.length ws.length) w = pre ++ (w ++ post)
  | [], [], pre, post, _ => by simp [g_set]
  | [], _ :: _, _, _, h => by simp at h
  | _ :: _, [], _, _, h => by simp at h
  | a :: ws, c :: w, pre, post, h => by
    have ih := g_set_blk ws w (pre ++ [c]) post (by simpa using h)
    have e : (pre ++ (a :: ws ++ post)).set pre.length c = (pre ++ [c]) ++ (ws ++ post) := by simp [List.set_append]
    show g_set ((pre ++ (a :: ws ++ post)).set pre.length c) (List.range' (pre.length + 1) ws.length) w = _
    rw [e]
    have l : (pre ++ [c]).length = pre.length + 1 := by simp
    rw [l] at ih
    rw [ih]
    simp
theorem g_sbl {D : va_G} {A : Nat → Prop} {s : State} {H : Heap} {locs : List Loc} {ws w w' : va_W} {a n : Nat} {is : List Nat} (hl : a + n ≤ ws.length) (hl2 : w.length = n) (hi : is = List.range' a n) (he : ws.take a ++ (w ++ ws.drop (a + n)) = w') (hw : g_W D A s (g_set ws is w) H locs) : g_W D A s w' H locs := by
  subst hi he
  have e : ws = ws.take a ++ ((ws.drop a).take n ++ ws.drop (a + n)) := by
    rw [← List.drop_drop, List.take_append_drop, List.take_append_drop]
  have la : (ws.take a).length = a := by rw [List.length_take]; omega
  have ln : ((ws.drop a).take n).length = n := by rw [List.length_take, List.length_drop]; omega
  have h := g_set_blk ((ws.drop a).take n) w (ws.take a) (ws.drop (a + n)) (by rw [ln, hl2])
  rw [la, ln, ← e] at h
  rw [h] at hw
  exact hw
end GSet
