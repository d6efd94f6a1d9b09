section P19j
theorem not15 : ∀ d, d < 16 → 15 &&& (nI d ^^^ (-1)) = nI (15 - d) := by decide +kernel
theorem and_sub : ∀ al, al < 16 → ∀ a, a < 16 → a &&& al = a → nI al &&& (nI a ^^^ (-1)) = nI (al - a) := by decide +kernel
theorem pw_n (a : Nat) : ∀ n, pwF (nI a) n = nI (a ^ n)
  | 0 => rfl
  | n + 1 => by
    show pwF (nI a) n * nI a = _
    rw [pw_n a n, Nat.pow_succ]
    exact n_mul rfl rfl
/-- so many of 10 ^ (those alive) -/
def loN (al x : Nat) (g : Nat → Int32) : Nat → Nat
  | 0 => 0
  | a + 1 => if a &&& al = a ∧ g a = 20 then loN al x g a + (10 - x) ^ pcn a * x ^ pcn (al - a) else loN al x g a
theorem dX5_lost_0 : decode cX5_lost 0 = .ok (.iload_n 1, 1) := by decide +kernel
theorem dX5_lost_1 : decode cX5_lost 1 = .ok (.iconst 0, 1) := by decide +kernel
theorem dX5_lost_2 : decode cX5_lost 2 = .ok (.bipush 10, 2) := by decide +kernel
theorem dX5_lost_4 : decode cX5_lost 4 = .ok (.invokestatic 59, 3) := by decide +kernel
theorem dX5_lost_7 : decode cX5_lost 7 = .ok (.ifCond .eq 6, 3) := by decide +kernel
theorem dX5_lost_10 : decode cX5_lost 10 = .ok (.bipush (-2), 2) := by decide +kernel
theorem dX5_lost_12 : decode cX5_lost 12 = .ok (.ireturn, 1) := by decide +kernel
set_option maxRecDepth 20000 in
theorem ggX5_lost_X5_outside : GoodIn wsX5_lost wsX5_outside := goodIn_r _ [6] rfl (by decide +kernel)
set_option maxRecDepth 20000 in
theorem gX5_lost_X5_outside : GoodIn wsX5_lost (va_wsS RX5 59 yX5_outside wsX5_outside) := goodIn_app (goodIn_of _ (by decide +kernel)) ggX5_lost_X5_outside
set_option maxRecDepth 100000 in
set_option maxHeartbeats 4000000 in
theorem m_X5_lost_out {l : Launch} {D : va_G} {E : Nat → ClassId} {T : Nat → Nat} (ob : Nat) (z0 : Value) (z1 : Value) (z2 : Value) (z3 : Value) (z4 : Value) (z5 : Value) (z6 : Value) (z7 : Value) (z8 : Value) (z9 : Value) (z10 : Value) (v : Int32) (b : Int32) (ho : outB v 0 10 = true) : g_M l D E T yX5_lost wsX5_lost 1 22 [.ref ob, .int v, .int b] [(ob, .inr (5, [z0, z1, z2, z3, z4, z5, z6, z7, z8, z9, z10]))] [(ob, .inr (5, [z0, z1, z2, z3, z4, z5, z6, z7, z8, z9, z10]))] (some (.int (-2))) := by
  refine g_M.of (cc := cX5_lost) (nL := 6) (ret := (some .int)) (own := RX5) (lv := [(0, .ref ob), (1, .int v), (2, .int b)]) (by decide) rfl rfl (Nat.le_of_ble_eq_true rfl) rfl ?_
  intro p e R s m args below meth c A Q H locs ls hR hQ hc hr hw hl
  have hx := hc.1
  have hb := hc.2.1
  have hts := hc.2.2.2.1
  have hown := hc.2.2.2.2.1
  refine lv_iload_n hx hb dX5_lost_0 rfl (lv_at hl 1 rfl) ?_
  refine lv_iconst (v := 0) hx hb dX5_lost_1 (by decide) ?_
  refine lv_bipush (v := 10) hx hb dX5_lost_2 (by decide) ?_
  refine g_cS (As := [.int v, .int 0, .int 10]) (n := 3) (rest := []) (wc := []) (w1 := []) (bytes := cX5_outside) (maxL := 3) (ret := (some .boolean)) hc hw hl.1 (m_X5_outside (l := l) (D := D) (E := E) (T := T) v 0 10) gX5_lost_X5_outside rfl (by decide +kernel) (by rw [hR]; exact ⟨Nat.le_of_ble_eq_true rfl, Nat.le_of_ble_eq_true rfl⟩) [] (by decide) rfl [] rfl rfl rfl rfl (Nat.le_of_ble_eq_true rfl) dX5_lost_4 ⟨Nat.zero_le _, Nat.zero_le _⟩ (fun H locs hw => ?_)
  have hw : g_W D A s [(ob, .inr (5, [z0, z1, z2, z3, z4, z5, z6, z7, z8, z9, z10]))] H locs := hw
  refine W.eq (congrArg (fun z => F0 m 7 ls (.int z :: [])) (show (b2i (outB v 0 10) : Int32) = 1 from (congrArg b2i ho))) ?_
  refine lv_if_eq (tgt := 13) hx hb dX5_lost_7 (by decide) (fun c_7 => absurd c_7 (by decide)) (fun c_7 => ?_)
  refine lv_bipush (v := (-2)) hx hb dX5_lost_10 (by decide) ?_
  exact g_iret hQ hc hw hr rfl rfl dX5_lost_12
end P19j
