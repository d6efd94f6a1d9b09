section P19j
theorem not15 : ∀ d, d < 16 → 15 &&& (nI d ^^^ (-1)) = nI (15 - d) := by decide +kernel
theorem and_sub : ∀ al, al < 16 → ∀ a, a < 16 → a &&& al = a → nI al &&& (nI a ^^^ (-1)) = nI (al - a) := by decide +kernel
theorem pw_n (a : Nat) : ∀ n, pwF (nI a) n = nI (a ^ n)
  | 0 => rfl
  | n + 1 => by
    show pwF (nI a) n * nI a = _
    rw [pw_n a n, Nat.pow_succ]
    exact n_mul rfl rfl
/-- so many of 10 ^ (those alive) -/
def loN (al x : Nat) (g : Nat → Int32) : Nat → Nat
  | 0 => 0
  | a + 1 => if a &&& al = a ∧ g a = 20 then loN al x g a + (10 - x) ^ pcn a * x ^ pcn (al - a) else loN al x g a
theorem p10_le {y p : Nat} (hy : y ≤ 10) (hp : p ≤ 4) : y ^ p ≤ 10 ^ 4 := Nat.le_trans (Nat.pow_le_pow_left hy p) (Nat.pow_le_pow_right (by decide) hp)
theorem pcn_4 (d : Nat) : pcn d ≤ 4 := by
  rcases Nat.lt_or_ge d 16 with h | h
  · have := pcn_lt d h; omega
  · unfold pcn; rw [List.getD_eq_getElem?_getD, List.getElem?_eq_none (by simpa using h)]; decide
theorem lo_le {al x : Nat} {g : Nat → Int32} (hx9 : x ≤ 10) : ∀ a, loN al x g a ≤ a * 100000000
  | 0 => by simp [loN]
  | a + 1 => by
    have ih := lo_le (al := al) (g := g) hx9 a
    have h1 : (10 - x) ^ pcn a * x ^ pcn (al - a) ≤ 100000000 := Nat.le_trans (Nat.mul_le_mul (p10_le (show 10 - x ≤ 10 by omega) (pcn_4 a)) (p10_le hx9 (pcn_4 (al - a)))) (by decide)
    rw [Nat.succ_mul]
    by_cases c : a &&& al = a ∧ g a = 20
    · rw [loN, if_pos c]
      exact Nat.add_le_add ih h1
    · rw [loN, if_neg c]
      exact Nat.le_trans ih (Nat.le_add_right _ _)
theorem lo_lt {al x : Nat} (g : Nat → Int32) (hx9 : x ≤ 10) : loN al x g 16 < 2 ^ 31 := Nat.lt_of_le_of_lt (lo_le hx9 16) (by decide)
theorem dX5_lost_0 : decode cX5_lost 0 = .ok (.iload_n 1, 1) := by decide +kernel
theorem dX5_lost_1 : decode cX5_lost 1 = .ok (.iconst 0, 1) := by decide +kernel
theorem dX5_lost_2 : decode cX5_lost 2 = .ok (.bipush 10, 2) := by decide +kernel
theorem dX5_lost_4 : decode cX5_lost 4 = .ok (.invokestatic 59, 3) := by decide +kernel
theorem dX5_lost_7 : decode cX5_lost 7 = .ok (.ifCond .eq 6, 3) := by decide +kernel
theorem dX5_lost_10 : decode cX5_lost 10 = .ok (.bipush (-2), 2) := by decide +kernel
theorem dX5_lost_12 : decode cX5_lost 12 = .ok (.ireturn, 1) := by decide +kernel
set_option maxRecDepth 20000 in
theorem ggX5_lost_X5_outside : GoodIn wsX5_lost wsX5_outside := goodIn_r _ [6] rfl (by decide +kernel)
set_option maxRecDepth 20000 in
theorem gX5_lost_X5_outside : GoodIn wsX5_lost (va_wsS RX5 59 yX5_outside wsX5_outside) := goodIn_app (goodIn_of _ (by decide +kernel)) ggX5_lost_X5_outside
set_option maxRecDepth 100000 in
set_option maxHeartbeats 4000000 in
theorem m_X5_lost_out {l : Launch} {D : va_G} {E : Nat → ClassId} {T : Nat → Nat} (ob : Nat) (z0 : Value) (z1 : Value) (z2 : Value) (z3 : Value) (z4 : Value) (z5 : Value) (z6 : Value) (z7 : Value) (z8 : Value) (z9 : Value) (z10 : Value) (v : Int32) (b : Int32) (ho : outB v 0 10 = true) : g_M l D E T yX5_lost wsX5_lost 1 22 [.ref ob, .int v, .int b] [(ob, .inr (5, [z0, z1, z2, z3, z4, z5, z6, z7, z8, z9, z10]))] [(ob, .inr (5, [z0, z1, z2, z3, z4, z5, z6, z7, z8, z9, z10]))] (some (.int (-2))) := by
  refine g_M.of (cc := cX5_lost) (nL := 6) (ret := (some .int)) (own := RX5) (lv := [(0, .ref ob), (1, .int v), (2, .int b)]) (by decide) rfl rfl (Nat.le_of_ble_eq_true rfl) rfl ?_
  intro p e R s m args below meth c A Q H locs ls hR hQ hc hr hw hl
  have hx := hc.1
  have hb := hc.2.1
  have hts := hc.2.2.2.1
  have hown := hc.2.2.2.2.1
  refine lv_iload_n hx hb dX5_lost_0 rfl (lv_at hl 1 rfl) ?_
  refine lv_iconst (v := 0) hx hb dX5_lost_1 (by decide) ?_
  refine lv_bipush (v := 10) hx hb dX5_lost_2 (by decide) ?_
  refine g_cS (As := [.int v, .int 0, .int 10]) (n := 3) (rest := []) (wc := []) (w1 := []) (bytes := cX5_outside) (maxL := 3) (ret := (some .boolean)) hc hw hl.1 (m_X5_outside (l := l) (D := D) (E := E) (T := T) v 0 10) gX5_lost_X5_outside rfl (by decide +kernel) (by rw [hR]; exact ⟨Nat.le_of_ble_eq_true rfl, Nat.le_of_ble_eq_true rfl⟩) [] (by decide) rfl [] rfl rfl rfl rfl (Nat.le_of_ble_eq_true rfl) dX5_lost_4 ⟨Nat.zero_le _, Nat.zero_le _⟩ (fun H locs hw => ?_)
  have hw : g_W D A s [(ob, .inr (5, [z0, z1, z2, z3, z4, z5, z6, z7, z8, z9, z10]))] H locs := hw
  refine W.eq (congrArg (fun z => F0 m 7 ls (.int z :: [])) (show (b2i (outB v 0 10) : Int32) = 1 from (congrArg b2i ho))) ?_
  refine lv_if_eq (tgt := 13) hx hb dX5_lost_7 (by decide) (fun c_7 => absurd c_7 (by decide)) (fun c_7 => ?_)
  refine lv_bipush (v := (-2)) hx hb dX5_lost_10 (by decide) ?_
  exact g_iret hQ hc hw hr rfl rfl dX5_lost_12

theorem dX5_lost_13 : decode cX5_lost 13 = .ok (.bipush 15, 2) := by decide +kernel
theorem dX5_lost_15 : decode cX5_lost 15 = .ok (.aload_n 0, 1) := by decide +kernel
theorem dX5_lost_16 : decode cX5_lost 16 = .ok (.getfield 26, 3) := by decide +kernel
theorem dX5_lost_19 : decode cX5_lost 19 = .ok (.getfield 235, 3) := by decide +kernel
theorem dX5_lost_22 : decode cX5_lost 22 = .ok (.iconst (-1), 1) := by decide +kernel
theorem dX5_lost_23 : decode cX5_lost 23 = .ok (.ixor, 1) := by decide +kernel
theorem dX5_lost_24 : decode cX5_lost 24 = .ok (.iand, 1) := by decide +kernel
theorem dX5_lost_25 : decode cX5_lost 25 = .ok (.istore_n 3, 1) := by decide +kernel
theorem dX5_lost_26 : decode cX5_lost 26 = .ok (.aload_n 0, 1) := by decide +kernel
theorem dX5_lost_27 : decode cX5_lost 27 = .ok (.iload_n 3, 1) := by decide +kernel
theorem dX5_lost_28 : decode cX5_lost 28 = .ok (.invokevirtual 243, 3) := by decide +kernel
theorem dX5_lost_31 : decode cX5_lost 31 = .ok (.iconst 0, 1) := by decide +kernel
theorem dX5_lost_32 : decode cX5_lost 32 = .ok (.istore 4, 2) := by decide +kernel
theorem dX5_lost_34 : decode cX5_lost 34 = .ok (.iconst 0, 1) := by decide +kernel
theorem dX5_lost_35 : decode cX5_lost 35 = .ok (.istore 5, 2) := by decide +kernel
theorem dX5_lost_37 : decode cX5_lost 37 = .ok (.iload 5, 2) := by decide +kernel
theorem dX5_lost_39 : decode cX5_lost 39 = .ok (.bipush 15, 2) := by decide +kernel
theorem dX5_lost_41 : decode cX5_lost 41 = .ok (.if_icmp .gt 61, 3) := by decide +kernel
theorem dX5_lost_44 : decode cX5_lost 44 = .ok (.iload 5, 2) := by decide +kernel
theorem dX5_lost_46 : decode cX5_lost 46 = .ok (.iload_n 3, 1) := by decide +kernel
theorem dX5_lost_47 : decode cX5_lost 47 = .ok (.iconst (-1), 1) := by decide +kernel
theorem dX5_lost_48 : decode cX5_lost 48 = .ok (.ixor, 1) := by decide +kernel
theorem dX5_lost_49 : decode cX5_lost 49 = .ok (.iand, 1) := by decide +kernel
theorem dX5_lost_50 : decode cX5_lost 50 = .ok (.ifCond .ne 46, 3) := by decide +kernel
theorem dX5_lost_53 : decode cX5_lost 53 = .ok (.aload_n 0, 1) := by decide +kernel
theorem dX5_lost_54 : decode cX5_lost 54 = .ok (.getfield 54, 3) := by decide +kernel
theorem dX5_lost_57 : decode cX5_lost 57 = .ok (.iload 5, 2) := by decide +kernel
theorem dX5_lost_59 : decode cX5_lost 59 = .ok (.iaload, 1) := by decide +kernel
theorem dX5_lost_60 : decode cX5_lost 60 = .ok (.bipush 20, 2) := by decide +kernel
theorem dX5_lost_62 : decode cX5_lost 62 = .ok (.if_icmp .ne 34, 3) := by decide +kernel
theorem dX5_lost_65 : decode cX5_lost 65 = .ok (.iload 4, 2) := by decide +kernel
theorem dX5_lost_67 : decode cX5_lost 67 = .ok (.bipush 10, 2) := by decide +kernel
theorem dX5_lost_69 : decode cX5_lost 69 = .ok (.iload_n 1, 1) := by decide +kernel
theorem dX5_lost_70 : decode cX5_lost 70 = .ok (.isub, 1) := by decide +kernel
theorem dX5_lost_71 : decode cX5_lost 71 = .ok (.iload 5, 2) := by decide +kernel
theorem dX5_lost_73 : decode cX5_lost 73 = .ok (.invokestatic 238, 3) := by decide +kernel
theorem dX5_lost_76 : decode cX5_lost 76 = .ok (.invokestatic 253, 3) := by decide +kernel
theorem dX5_lost_79 : decode cX5_lost 79 = .ok (.iload_n 1, 1) := by decide +kernel
theorem dX5_lost_80 : decode cX5_lost 80 = .ok (.iload_n 3, 1) := by decide +kernel
theorem dX5_lost_81 : decode cX5_lost 81 = .ok (.iload 5, 2) := by decide +kernel
theorem dX5_lost_83 : decode cX5_lost 83 = .ok (.iconst (-1), 1) := by decide +kernel
theorem dX5_lost_84 : decode cX5_lost 84 = .ok (.ixor, 1) := by decide +kernel
theorem dX5_lost_85 : decode cX5_lost 85 = .ok (.iand, 1) := by decide +kernel
theorem dX5_lost_86 : decode cX5_lost 86 = .ok (.invokestatic 238, 3) := by decide +kernel
theorem dX5_lost_89 : decode cX5_lost 89 = .ok (.invokestatic 253, 3) := by decide +kernel
theorem dX5_lost_92 : decode cX5_lost 92 = .ok (.imul, 1) := by decide +kernel
theorem dX5_lost_93 : decode cX5_lost 93 = .ok (.iadd, 1) := by decide +kernel
theorem dX5_lost_94 : decode cX5_lost 94 = .ok (.istore 4, 2) := by decide +kernel
theorem dX5_lost_96 : decode cX5_lost 96 = .ok (.iinc 5 1, 3) := by decide +kernel
theorem dX5_lost_99 : decode cX5_lost 99 = .ok (.goto (-62), 3) := by decide +kernel
theorem dX5_lost_102 : decode cX5_lost 102 = .ok (.iload 4, 2) := by decide +kernel
theorem dX5_lost_104 : decode cX5_lost 104 = .ok (.bipush 10, 2) := by decide +kernel
theorem dX5_lost_106 : decode cX5_lost 106 = .ok (.iload_n 3, 1) := by decide +kernel
theorem dX5_lost_107 : decode cX5_lost 107 = .ok (.invokestatic 238, 3) := by decide +kernel
theorem dX5_lost_110 : decode cX5_lost 110 = .ok (.invokestatic 253, 3) := by decide +kernel
theorem dX5_lost_113 : decode cX5_lost 113 = .ok (.iload_n 2, 1) := by decide +kernel
theorem dX5_lost_114 : decode cX5_lost 114 = .ok (.invokestatic 249, 3) := by decide +kernel
theorem dX5_lost_117 : decode cX5_lost 117 = .ok (.ireturn, 1) := by decide +kernel
set_option maxRecDepth 20000 in
theorem ggX5_lost_X5_weighSets : GoodIn wsX5_lost wsX5_weighSets := goodIn_r _ [10, 11, 2, 12, 13, 14, 15, 5, 16, 1, 17, 18, 19, 20, 21, 22, 23, 24, 25, 26, 27, 28, 29, 30, 31, 32, 33, 34, 35, 36, 37, 38, 39, 40, 41, 42, 43, 44, 45, 46, 47, 48, 49, 50, 51, 52, 53, 54, 55, 56, 57, 58, 59, 60, 61, 62, 63, 64, 65, 66, 67, 68, 69, 70, 71, 72, 73, 74, 75, 76, 77, 78, 79, 80, 81, 82, 83, 84, 85, 86, 87, 88, 89, 90, 91, 92, 93, 94, 95, 96, 97, 98, 99, 100, 101, 102, 103, 104, 105, 106, 107, 108, 109, 110, 111, 112, 113, 114, 115, 116, 117, 118, 119, 120, 121, 122, 123, 124, 125, 126, 138, 139, 140, 141, 142, 143, 144, 145, 146, 147, 148, 149, 150, 151, 152, 153, 154, 155, 156, 157, 158, 159, 160, 161, 162, 163, 164, 165, 166, 167, 168, 169] rfl (by decide +kernel)
set_option maxRecDepth 20000 in
theorem gX5_lost_X5_weighSets : GoodIn wsX5_lost (wsV RX5 243 RX5 yX5_weighSets wsX5_weighSets) := goodIn_app (goodIn_of _ (by decide +kernel)) ggX5_lost_X5_weighSets
set_option maxRecDepth 20000 in
theorem ggX5_lost_J6_bitCount_0f7a4 : GoodIn wsX5_lost wsJ6_bitCount_0f7a4 := goodIn_r _ [50, 51, 52, 53] rfl (by decide +kernel)
set_option maxRecDepth 20000 in
theorem gX5_lost_J6_bitCount_0f7a4 : GoodIn wsX5_lost (va_wsS RX5 238 yJ6_bitCount_0f7a4 wsJ6_bitCount_0f7a4) := goodIn_app (goodIn_of _ (by decide +kernel)) ggX5_lost_J6_bitCount_0f7a4
set_option maxRecDepth 20000 in
theorem ggX5_lost_X5_power : GoodIn wsX5_lost wsX5_power := goodIn_r _ [130] rfl (by decide +kernel)
set_option maxRecDepth 20000 in
theorem gX5_lost_X5_power : GoodIn wsX5_lost (va_wsS RX5 253 yX5_power wsX5_power) := goodIn_app (goodIn_of _ (by decide +kernel)) ggX5_lost_X5_power
set_option maxRecDepth 20000 in
theorem ggX5_lost_X5_partOfLowest : GoodIn wsX5_lost wsX5_partOfLowest := goodIn_r _ [133, 134, 135, 136, 137] rfl (by decide +kernel)
set_option maxRecDepth 20000 in
theorem gX5_lost_X5_partOfLowest : GoodIn wsX5_lost (va_wsS RX5 249 yX5_partOfLowest wsX5_partOfLowest) := goodIn_app (goodIn_of _ (by decide +kernel)) ggX5_lost_X5_partOfLowest
theorem inX5_lost_X4 : ∀ w ∈ u_ws RX4 TX4 11, w ∈ wsX5_lost := fun w h => List.mem_cons_of_mem _ (List.mem_append_left _ (List.mem_append_right _ h))
theorem inX5_lost_X5 : ∀ w ∈ u_ws RX5 TX5 11, w ∈ wsX5_lost := fun w h => List.mem_cons_of_mem _ (List.mem_append_left _ (List.mem_append_left _ (List.mem_append_right _ h)))
set_option maxRecDepth 100000 in
set_option maxHeartbeats 4000000 in
theorem m_X5_lost {l : Launch} {D : va_G} {E : Nat → ClassId} {T : Nat → Nat} (pl : Nat) (fa : Nat) (nf : Nat) (nw : Nat) (xa : Nat) (ba : Nat) (pa : Nat) (aa : Nat) (fl : Nat → Int32) (x : Nat → Int32) (J : PJ) (h : Nat) (hs : Nat) (ht : Nat) (hq : Nat) (S : TS) (B : Nat) (ob : Nat) (kh : Nat) (ks : Nat) (kt : Nat) (kq : Nat) (wa : Nat) (v : Nat) (z0 : Value) (z4 : Value) (z5 : Value) (z6 : Value) (z7 : Value) (z9 : Value) (z10 : Value) (g : Nat → Int32) (U : TS) (up : Bool) (hok : OkS B S) (hB : B + 20 < 2 ^ 31) (hnw : nw ≤ 6) (hnf : nf ≤ 6) (hv : v ≤ 10) : g_ME l D E T yX5_lost wsX5_lost 6 146 [.ref ob, .int (nI v), .int (b2i up)] [(ob, .inr (5, [z0, .ref pl, .ref h, .ref kh, z4, z5, z6, z7, .ref wa, z9, z10])), (pl, .inr (1, [.ref fa, .int (nI nf), .int (nI nw), .ref xa, .ref ba, .ref pa, .ref aa, .int (jS J), .int (jN J), .float (jH J)])), (fa, .inl (E 0, 18, .inl fl)), (xa, .inl (E 0, 3, .inl x)), (ba, .inl (E 0, 12, .inl (jB J))), (pa, .inl (E 1, 4, .inr (.inr (.inl (jE J))))), (aa, .inl (E 1, 4, .inr (.inr (.inl (jA J))))), (h, .inr (4, [.ref hs, .ref ht, .ref hq, .int (nI (sD S)), .int (sM S), .float (sP S), .int (sI S), .int (sC S), .int (sA S), .int (sR S), .int (nI (sK S))])), (hs, .inl (E 1, 4, .inr (.inr (.inl (sF S))))), (ht, .inl (E 0, 4, .inl (sT S))), (hq, .inl (E 0, 18, .inl (sW S))), (kh, .inr (4, [.ref ks, .ref kt, .ref kq, .int (nI (sD U)), .int (sM U), .float (sP U), .int (sI U), .int (sC U), .int (sA U), .int (sR U), .int (nI (sK U))])), (ks, .inl (E 1, 4, .inr (.inr (.inl (sF U))))), (kt, .inl (E 0, 4, .inl (sT U))), (kq, .inl (E 0, 18, .inl (sW U))), (wa, .inl (E 0, 16, .inl g))] (fun (u9 : PJ × TS) => [(ob, .inr (5, [z0, .ref pl, .ref h, .ref kh, z4, z5, z6, z7, .ref wa, z9, z10])), (pl, .inr (1, [.ref fa, .int (nI nf), .int (nI nw), .ref xa, .ref ba, .ref pa, .ref aa, .int (jS u9.1), .int (jN u9.1), .float (jH u9.1)])), (fa, .inl (E 0, 18, .inl fl)), (xa, .inl (E 0, 3, .inl x)), (ba, .inl (E 0, 12, .inl (jB u9.1))), (pa, .inl (E 1, 4, .inr (.inr (.inl (jE u9.1))))), (aa, .inl (E 1, 4, .inr (.inr (.inl (jA u9.1))))), (h, .inr (4, [.ref hs, .ref ht, .ref hq, .int (nI (sD S)), .int (sM S), .float (sP S), .int (sI S), .int (sC S), .int (sA S), .int (sR S), .int (nI (sK S))])), (hs, .inl (E 1, 4, .inr (.inr (.inl (sF S))))), (ht, .inl (E 0, 4, .inl (sT S))), (hq, .inl (E 0, 18, .inl (sW S))), (kh, .inr (4, [.ref ks, .ref kt, .ref kq, .int (nI (sD u9.2)), .int (sM u9.2), .float (sP u9.2), .int (sI u9.2), .int (sC u9.2), .int (sA u9.2), .int (sR u9.2), .int (nI (sK u9.2))])), (ks, .inl (E 1, 4, .inr (.inr (.inl (sF u9.2))))), (kt, .inl (E 0, 4, .inl (sT u9.2))), (kq, .inl (E 0, 18, .inl (sW u9.2))), (wa, .inl (E 0, 16, .inl (wgP nw nf fl x S (15 - sD S) g 16)))]) (some (.int (frF (nI (loN (15 - sD S) v (wgP nw nf fl x S (15 - sD S) g 16) 16)) (10 ^ pcn (15 - sD S)) (loN (15 - sD S) v (wgP nw nf fl x S (15 - sD S) g 16) 16) up))) := by
  refine g_ME.of (cc := cX5_lost) (nL := 6) (ret := (some .int)) (own := RX5) (lv := [(0, .ref ob), (1, .int (nI v)), (2, .int (b2i up))]) (by decide) rfl rfl (Nat.le_of_ble_eq_true rfl) rfl ?_
  intro p e R s m args below meth c A Q H locs ls hR hQ hc hr hw hl
  have hx := hc.1
  have hb := hc.2.1
  have hts := hc.2.2.2.1
  have hown := hc.2.2.2.2.1
  refine lv_iload_n hx hb dX5_lost_0 rfl (lv_at hl 1 rfl) ?_
  refine lv_iconst (v := 0) hx hb dX5_lost_1 (by decide) ?_
  refine lv_bipush (v := 10) hx hb dX5_lost_2 (by decide) ?_
  refine g_cS (As := [.int (nI v), .int 0, .int 10]) (n := 3) (rest := []) (wc := []) (w1 := []) (bytes := cX5_outside) (maxL := 3) (ret := (some .boolean)) hc hw hl.1 (m_X5_outside (l := l) (D := D) (E := E) (T := T) (nI v) 0 10) gX5_lost_X5_outside rfl (by decide +kernel) (by rw [hR]; exact ⟨Nat.le_of_ble_eq_true rfl, Nat.le_of_ble_eq_true rfl⟩) [] (by decide) rfl [] rfl rfl rfl rfl (Nat.le_of_ble_eq_true rfl) dX5_lost_4 ⟨Nat.zero_le _, Nat.zero_le _⟩ (fun H locs hw => ?_)
  have hw : g_W D A s [(ob, .inr (5, [z0, .ref pl, .ref h, .ref kh, z4, z5, z6, z7, .ref wa, z9, z10])), (pl, .inr (1, [.ref fa, .int (nI nf), .int (nI nw), .ref xa, .ref ba, .ref pa, .ref aa, .int (jS J), .int (jN J), .float (jH J)])), (fa, .inl (E 0, 18, .inl fl)), (xa, .inl (E 0, 3, .inl x)), (ba, .inl (E 0, 12, .inl (jB J))), (pa, .inl (E 1, 4, .inr (.inr (.inl (jE J))))), (aa, .inl (E 1, 4, .inr (.inr (.inl (jA J))))), (h, .inr (4, [.ref hs, .ref ht, .ref hq, .int (nI (sD S)), .int (sM S), .float (sP S), .int (sI S), .int (sC S), .int (sA S), .int (sR S), .int (nI (sK S))])), (hs, .inl (E 1, 4, .inr (.inr (.inl (sF S))))), (ht, .inl (E 0, 4, .inl (sT S))), (hq, .inl (E 0, 18, .inl (sW S))), (kh, .inr (4, [.ref ks, .ref kt, .ref kq, .int (nI (sD U)), .int (sM U), .float (sP U), .int (sI U), .int (sC U), .int (sA U), .int (sR U), .int (nI (sK U))])), (ks, .inl (E 1, 4, .inr (.inr (.inl (sF U))))), (kt, .inl (E 0, 4, .inl (sT U))), (kq, .inl (E 0, 18, .inl (sW U))), (wa, .inl (E 0, 16, .inl g))] H locs := hw
  refine W.eq (congrArg (fun z => F0 m 7 ls (.int z :: [])) (show (b2i (outB (nI v) 0 10) : Int32) = 0 from (congrArg b2i (out_nf (n := v) (a := 0) (b := 10) (by omega) hv (by decide))))) ?_
  refine lv_if_eq (tgt := 13) hx hb dX5_lost_7 (by decide) (fun c_7 => ?_) (fun c_7 => absurd c_7 (by decide))
  refine lv_bipush (v := 15) hx hb dX5_lost_13 (by decide) ?_
  refine lv_aload_n hx hb dX5_lost_15 rfl (lv_at hl 0 rfl) ?_
  refine g_get (TT := TX5) hc hw inX5_lost_X5 0 2 1 rfl rfl (by decide) rfl rfl dX5_lost_16 ?_
  refine g_getN (TT := TX4) hc hw inX5_lost_X4 7 3 25 rfl rfl (by decide) rfl rfl dX5_lost_19 ?_
  refine lv_iconst (v := (-1)) hx hb dX5_lost_22 (by decide) ?_
  refine lv_ixor hx hb dX5_lost_23 ?_
  refine lv_iand hx hb dX5_lost_24 ?_
  refine W.eq (congrArg (fun z => F0 m 25 ls (.int z :: [])) (show (15 &&& ((nI (sD S)) ^^^ (-1)) : Int32) = nI (15 - sD S) from (not15 _ hok.d))) ?_
  refine lv_istore_n (lv' := [(3, .int (nI (15 - sD S))), (0, .ref ob), (1, .int (nI v)), (2, .int (b2i up))]) hx hb dX5_lost_25 rfl hl (by decide) rfl (fun ls hl => ?_)
  refine lv_aload_n hx hb dX5_lost_26 rfl (lv_at hl 1 rfl) ?_
  refine lv_iload_n hx hb dX5_lost_27 rfl (lv_at hl 0 rfl) ?_
  refine g_cEV (As := [.int (nI (15 - sD S))]) (n := 1) (rest := []) (wc := [(ob, .inr (5, [z0, .ref pl, .ref h, .ref kh, z4, z5, z6, z7, .ref wa, z9, z10])), (pl, .inr (1, [.ref fa, .int (nI nf), .int (nI nw), .ref xa, .ref ba, .ref pa, .ref aa, .int (jS J), .int (jN J), .float (jH J)])), (fa, .inl (E 0, 18, .inl fl)), (xa, .inl (E 0, 3, .inl x)), (ba, .inl (E 0, 12, .inl (jB J))), (pa, .inl (E 1, 4, .inr (.inr (.inl (jE J))))), (aa, .inl (E 1, 4, .inr (.inr (.inl (jA J))))), (h, .inr (4, [.ref hs, .ref ht, .ref hq, .int (nI (sD S)), .int (sM S), .float (sP S), .int (sI S), .int (sC S), .int (sA S), .int (sR S), .int (nI (sK S))])), (hs, .inl (E 1, 4, .inr (.inr (.inl (sF S))))), (ht, .inl (E 0, 4, .inl (sT S))), (hq, .inl (E 0, 18, .inl (sW S))), (kh, .inr (4, [.ref ks, .ref kt, .ref kq, .int (nI (sD U)), .int (sM U), .float (sP U), .int (sI U), .int (sC U), .int (sA U), .int (sR U), .int (nI (sK U))])), (ks, .inl (E 1, 4, .inr (.inr (.inl (sF U))))), (kt, .inl (E 0, 4, .inl (sT U))), (kq, .inl (E 0, 18, .inl (sW U))), (wa, .inl (E 0, 16, .inl g))]) (w1 := (fun (u9 : PJ × TS) => [(ob, .inr (5, [z0, .ref pl, .ref h, .ref kh, z4, z5, z6, z7, .ref wa, z9, z10])), (pl, .inr (1, [.ref fa, .int (nI nf), .int (nI nw), .ref xa, .ref ba, .ref pa, .ref aa, .int (jS u9.1), .int (jN u9.1), .float (jH u9.1)])), (fa, .inl (E 0, 18, .inl fl)), (xa, .inl (E 0, 3, .inl x)), (ba, .inl (E 0, 12, .inl (jB u9.1))), (pa, .inl (E 1, 4, .inr (.inr (.inl (jE u9.1))))), (aa, .inl (E 1, 4, .inr (.inr (.inl (jA u9.1))))), (h, .inr (4, [.ref hs, .ref ht, .ref hq, .int (nI (sD S)), .int (sM S), .float (sP S), .int (sI S), .int (sC S), .int (sA S), .int (sR S), .int (nI (sK S))])), (hs, .inl (E 1, 4, .inr (.inr (.inl (sF S))))), (ht, .inl (E 0, 4, .inl (sT S))), (hq, .inl (E 0, 18, .inl (sW S))), (kh, .inr (4, [.ref ks, .ref kt, .ref kq, .int (nI (sD u9.2)), .int (sM u9.2), .float (sP u9.2), .int (sI u9.2), .int (sC u9.2), .int (sA u9.2), .int (sR u9.2), .int (nI (sK u9.2))])), (ks, .inl (E 1, 4, .inr (.inr (.inl (sF u9.2))))), (kt, .inl (E 0, 4, .inl (sT u9.2))), (kq, .inl (E 0, 18, .inl (sW u9.2))), (wa, .inl (E 0, 16, .inl (wgP nw nf fl x S (15 - sD S) g 16)))])) (bytes := cX5_weighSets) (maxL := 3) (ret := none) hc hw hl.1 (m_X5_weighSets (l := l) (D := D) (E := E) (T := T) pl fa nf nw xa ba pa aa fl x J h hs ht hq S B ob kh ks kt kq z0 z4 z5 z6 z7 z9 z10 wa (15 - sD S) g U (by first | assumption | omega | decide) (by omega) (by first | assumption | omega | decide) (by first | assumption | omega | decide) (by omega)) gX5_lost_X5_weighSets rfl (by decide +kernel) (by rw [hR]; exact ⟨Nat.le_of_ble_eq_true rfl, Nat.le_of_ble_eq_true rfl⟩) [0, 1, 2, 3, 4, 5, 6, 7, 8, 9, 10, 11, 12, 13, 14, 15] 0 5 rfl rfl (by decide) rfl [ob, pl, fa, xa, ba, pa, aa, h, hs, ht, hq, kh, ks, kt, kq, wa] (fun _ => rfl) rfl rfl rfl (Nat.le_of_ble_eq_true rfl) dX5_lost_28 ⟨Nat.zero_le _, Nat.zero_le _⟩ (fun u_1 H locs hw => ?_)
  obtain ⟨J1_u_1, S1_u_1⟩ := u_1
  have hw : g_W D A s [(ob, .inr (5, [z0, .ref pl, .ref h, .ref kh, z4, z5, z6, z7, .ref wa, z9, z10])), (pl, .inr (1, [.ref fa, .int (nI nf), .int (nI nw), .ref xa, .ref ba, .ref pa, .ref aa, .int (jS J1_u_1), .int (jN J1_u_1), .float (jH J1_u_1)])), (fa, .inl (E 0, 18, .inl fl)), (xa, .inl (E 0, 3, .inl x)), (ba, .inl (E 0, 12, .inl (jB J1_u_1))), (pa, .inl (E 1, 4, .inr (.inr (.inl (jE J1_u_1))))), (aa, .inl (E 1, 4, .inr (.inr (.inl (jA J1_u_1))))), (h, .inr (4, [.ref hs, .ref ht, .ref hq, .int (nI (sD S)), .int (sM S), .float (sP S), .int (sI S), .int (sC S), .int (sA S), .int (sR S), .int (nI (sK S))])), (hs, .inl (E 1, 4, .inr (.inr (.inl (sF S))))), (ht, .inl (E 0, 4, .inl (sT S))), (hq, .inl (E 0, 18, .inl (sW S))), (kh, .inr (4, [.ref ks, .ref kt, .ref kq, .int (nI (sD S1_u_1)), .int (sM S1_u_1), .float (sP S1_u_1), .int (sI S1_u_1), .int (sC S1_u_1), .int (sA S1_u_1), .int (sR S1_u_1), .int (nI (sK S1_u_1))])), (ks, .inl (E 1, 4, .inr (.inr (.inl (sF S1_u_1))))), (kt, .inl (E 0, 4, .inl (sT S1_u_1))), (kq, .inl (E 0, 18, .inl (sW S1_u_1))), (wa, .inl (E 0, 16, .inl (wgP nw nf fl x S (15 - sD S) g 16)))] H locs := g_sbl (a := 0) (n := 16) (Nat.le_of_ble_eq_true rfl) rfl rfl rfl hw
  refine lv_iconst (v := 0) hx hb dX5_lost_31 (by decide) ?_
  refine lv_istore (lv' := [(4, .int 0), (3, .int (nI (15 - sD S))), (0, .ref ob), (1, .int (nI v)), (2, .int (b2i up))]) hx hb dX5_lost_32 hl (by decide) rfl (fun ls hl => ?_)
  refine lv_iconst (v := 0) hx hb dX5_lost_34 (by decide) ?_
  refine lv_istore (lv' := [(5, .int 0), (4, .int 0), (3, .int (nI (15 - sD S))), (0, .ref ob), (1, .int (nI v)), (2, .int (b2i up))]) hx hb dX5_lost_35 hl (by decide) rfl (fun ls hl => ?_)
  have J37 : ∀ (k9 : Nat) (a : Nat), a + k9 = 16 → ∀ (H : Heap) (locs : List Loc) (ls : Array Slot), g_W D A s [(ob, .inr (5, [z0, .ref pl, .ref h, .ref kh, z4, z5, z6, z7, .ref wa, z9, z10])), (pl, .inr (1, [.ref fa, .int (nI nf), .int (nI nw), .ref xa, .ref ba, .ref pa, .ref aa, .int (jS J1_u_1), .int (jN J1_u_1), .float (jH J1_u_1)])), (fa, .inl (E 0, 18, .inl fl)), (xa, .inl (E 0, 3, .inl x)), (ba, .inl (E 0, 12, .inl (jB J1_u_1))), (pa, .inl (E 1, 4, .inr (.inr (.inl (jE J1_u_1))))), (aa, .inl (E 1, 4, .inr (.inr (.inl (jA J1_u_1))))), (h, .inr (4, [.ref hs, .ref ht, .ref hq, .int (nI (sD S)), .int (sM S), .float (sP S), .int (sI S), .int (sC S), .int (sA S), .int (sR S), .int (nI (sK S))])), (hs, .inl (E 1, 4, .inr (.inr (.inl (sF S))))), (ht, .inl (E 0, 4, .inl (sT S))), (hq, .inl (E 0, 18, .inl (sW S))), (kh, .inr (4, [.ref ks, .ref kt, .ref kq, .int (nI (sD S1_u_1)), .int (sM S1_u_1), .float (sP S1_u_1), .int (sI S1_u_1), .int (sC S1_u_1), .int (sA S1_u_1), .int (sR S1_u_1), .int (nI (sK S1_u_1))])), (ks, .inl (E 1, 4, .inr (.inr (.inl (sF S1_u_1))))), (kt, .inl (E 0, 4, .inl (sT S1_u_1))), (kq, .inl (E 0, 18, .inl (sW S1_u_1))), (wa, .inl (E 0, 16, .inl (wgP nw nf fl x S (15 - sD S) g 16)))] H locs → lv_has ls 6 [(0, .ref ob), (1, .int (nI v)), (2, .int (b2i up)), (3, .int (nI (15 - sD S))), (4, .int (nI (loN (15 - sD S) v (wgP nw nf fl x S (15 - sD S) g 16) a))), (5, .int (nI a))] → W p l e R s m args below meth c H locs 0 0 Q (F0 m 37 ls []) := by
    intro k9
    induction k9 with
    | zero =>
      intro a h9   H locs ls hw hl
      have h9 : a = 16 := h9
      subst h9
      refine lv_iload hx hb dX5_lost_37 (lv_at hl 5 rfl) ?_
      refine lv_bipush (v := 15) hx hb dX5_lost_39 (by decide) ?_
      refine lv_icmp_gt (tgt := 102) hx hb dX5_lost_41 (by decide) (fun c_41 => ?_) (fun c_41 => absurd (by decide) c_41)
      refine lv_iload hx hb dX5_lost_102 (lv_at hl 4 rfl) ?_
      refine lv_bipush (v := 10) hx hb dX5_lost_104 (by decide) ?_
      refine lv_iload_n hx hb dX5_lost_106 rfl (lv_at hl 3 rfl) ?_
      refine g_cS (As := [.int (nI (15 - sD S))]) (n := 1) (rest := [.int 10, .int (nI (loN (15 - sD S) v (wgP nw nf fl x S (15 - sD S) g 16) 16))]) (wc := []) (w1 := []) (bytes := cJ6_bitCount_0f7a4) (maxL := 1) (ret := (some .int)) hc hw hl.1 (m_J6_bitCount_0f7a4 (l := l) (D := D) (E := E) (T := T) (15 - sD S) (by omega)) gX5_lost_J6_bitCount_0f7a4 rfl (by decide +kernel) (by rw [hR]; exact ⟨Nat.le_of_ble_eq_true rfl, Nat.le_of_ble_eq_true rfl⟩) [] (by decide) rfl [] rfl rfl rfl rfl (Nat.le_of_ble_eq_true rfl) dX5_lost_107 ⟨Nat.zero_le _, Nat.zero_le _⟩ (fun H locs hw => ?_)
      have hw : g_W D A s [(ob, .inr (5, [z0, .ref pl, .ref h, .ref kh, z4, z5, z6, z7, .ref wa, z9, z10])), (pl, .inr (1, [.ref fa, .int (nI nf), .int (nI nw), .ref xa, .ref ba, .ref pa, .ref aa, .int (jS J1_u_1), .int (jN J1_u_1), .float (jH J1_u_1)])), (fa, .inl (E 0, 18, .inl fl)), (xa, .inl (E 0, 3, .inl x)), (ba, .inl (E 0, 12, .inl (jB J1_u_1))), (pa, .inl (E 1, 4, .inr (.inr (.inl (jE J1_u_1))))), (aa, .inl (E 1, 4, .inr (.inr (.inl (jA J1_u_1))))), (h, .inr (4, [.ref hs, .ref ht, .ref hq, .int (nI (sD S)), .int (sM S), .float (sP S), .int (sI S), .int (sC S), .int (sA S), .int (sR S), .int (nI (sK S))])), (hs, .inl (E 1, 4, .inr (.inr (.inl (sF S))))), (ht, .inl (E 0, 4, .inl (sT S))), (hq, .inl (E 0, 18, .inl (sW S))), (kh, .inr (4, [.ref ks, .ref kt, .ref kq, .int (nI (sD S1_u_1)), .int (sM S1_u_1), .float (sP S1_u_1), .int (sI S1_u_1), .int (sC S1_u_1), .int (sA S1_u_1), .int (sR S1_u_1), .int (nI (sK S1_u_1))])), (ks, .inl (E 1, 4, .inr (.inr (.inl (sF S1_u_1))))), (kt, .inl (E 0, 4, .inl (sT S1_u_1))), (kq, .inl (E 0, 18, .inl (sW S1_u_1))), (wa, .inl (E 0, 16, .inl (wgP nw nf fl x S (15 - sD S) g 16)))] H locs := hw
      refine g_cS (As := [.int 10, .int (nI (pcn (15 - sD S)))]) (n := 2) (rest := [.int (nI (loN (15 - sD S) v (wgP nw nf fl x S (15 - sD S) g 16) 16))]) (wc := []) (w1 := []) (bytes := cX5_power) (maxL := 4) (ret := (some .int)) hc hw hl.1 (m_X5_power (l := l) (D := D) (E := E) (T := T) 10 (pcn (15 - sD S)) (by have := pcn_lt (15 - sD S) (by omega); omega)) gX5_lost_X5_power rfl (by decide +kernel) (by rw [hR]; exact ⟨Nat.le_of_ble_eq_true rfl, Nat.le_of_ble_eq_true rfl⟩) [] (by decide) rfl [] rfl rfl rfl rfl (Nat.le_of_ble_eq_true rfl) dX5_lost_110 ⟨Nat.zero_le _, Nat.zero_le _⟩ (fun H locs hw => ?_)
      have hw : g_W D A s [(ob, .inr (5, [z0, .ref pl, .ref h, .ref kh, z4, z5, z6, z7, .ref wa, z9, z10])), (pl, .inr (1, [.ref fa, .int (nI nf), .int (nI nw), .ref xa, .ref ba, .ref pa, .ref aa, .int (jS J1_u_1), .int (jN J1_u_1), .float (jH J1_u_1)])), (fa, .inl (E 0, 18, .inl fl)), (xa, .inl (E 0, 3, .inl x)), (ba, .inl (E 0, 12, .inl (jB J1_u_1))), (pa, .inl (E 1, 4, .inr (.inr (.inl (jE J1_u_1))))), (aa, .inl (E 1, 4, .inr (.inr (.inl (jA J1_u_1))))), (h, .inr (4, [.ref hs, .ref ht, .ref hq, .int (nI (sD S)), .int (sM S), .float (sP S), .int (sI S), .int (sC S), .int (sA S), .int (sR S), .int (nI (sK S))])), (hs, .inl (E 1, 4, .inr (.inr (.inl (sF S))))), (ht, .inl (E 0, 4, .inl (sT S))), (hq, .inl (E 0, 18, .inl (sW S))), (kh, .inr (4, [.ref ks, .ref kt, .ref kq, .int (nI (sD S1_u_1)), .int (sM S1_u_1), .float (sP S1_u_1), .int (sI S1_u_1), .int (sC S1_u_1), .int (sA S1_u_1), .int (sR S1_u_1), .int (nI (sK S1_u_1))])), (ks, .inl (E 1, 4, .inr (.inr (.inl (sF S1_u_1))))), (kt, .inl (E 0, 4, .inl (sT S1_u_1))), (kq, .inl (E 0, 18, .inl (sW S1_u_1))), (wa, .inl (E 0, 16, .inl (wgP nw nf fl x S (15 - sD S) g 16)))] H locs := hw
      refine W.eq (congrArg (fun z => F0 m 113 ls (.int z :: [.int (nI (loN (15 - sD S) v (wgP nw nf fl x S (15 - sD S) g 16) 16))])) (show (pwF 10 (pcn (15 - sD S)) : Int32) = nI (10 ^ pcn (15 - sD S)) from (pw_n 10 _))) ?_
      refine lv_iload_n hx hb dX5_lost_113 rfl (lv_at hl 2 rfl) ?_
      refine g_cS (As := [.int (nI (loN (15 - sD S) v (wgP nw nf fl x S (15 - sD S) g 16) 16)), .int (nI (10 ^ pcn (15 - sD S))), .int (b2i up)]) (n := 3) (rest := []) (wc := []) (w1 := []) (bytes := cX5_partOfLowest) (maxL := 7) (ret := (some .int)) hc hw hl.1 (m_X5_partOfLowest (l := l) (D := D) (E := E) (T := T) (nI (loN (15 - sD S) v (wgP nw nf fl x S (15 - sD S) g 16) 16)) (10 ^ pcn (15 - sD S)) (loN (15 - sD S) v (wgP nw nf fl x S (15 - sD S) g 16) 16) up (if_pos (nI_le (Nat.zero_le _) (lo_lt _ hv))) (lo_lt _ hv) (Nat.pow_pos (by decide)) (Nat.lt_of_le_of_lt (p10_le (Nat.le_refl 10) (show pcn (15 - sD S) ≤ 4 by have := pcn_lt (15 - sD S) (by omega); omega)) (by decide))) gX5_lost_X5_partOfLowest rfl (by decide +kernel) (by rw [hR]; exact ⟨Nat.le_of_ble_eq_true rfl, Nat.le_of_ble_eq_true rfl⟩) [] (by decide) rfl [] rfl rfl rfl rfl (Nat.le_of_ble_eq_true rfl) dX5_lost_114 ⟨Nat.zero_le _, Nat.zero_le _⟩ (fun H locs hw => ?_)
      have hw : g_W D A s [(ob, .inr (5, [z0, .ref pl, .ref h, .ref kh, z4, z5, z6, z7, .ref wa, z9, z10])), (pl, .inr (1, [.ref fa, .int (nI nf), .int (nI nw), .ref xa, .ref ba, .ref pa, .ref aa, .int (jS J1_u_1), .int (jN J1_u_1), .float (jH J1_u_1)])), (fa, .inl (E 0, 18, .inl fl)), (xa, .inl (E 0, 3, .inl x)), (ba, .inl (E 0, 12, .inl (jB J1_u_1))), (pa, .inl (E 1, 4, .inr (.inr (.inl (jE J1_u_1))))), (aa, .inl (E 1, 4, .inr (.inr (.inl (jA J1_u_1))))), (h, .inr (4, [.ref hs, .ref ht, .ref hq, .int (nI (sD S)), .int (sM S), .float (sP S), .int (sI S), .int (sC S), .int (sA S), .int (sR S), .int (nI (sK S))])), (hs, .inl (E 1, 4, .inr (.inr (.inl (sF S))))), (ht, .inl (E 0, 4, .inl (sT S))), (hq, .inl (E 0, 18, .inl (sW S))), (kh, .inr (4, [.ref ks, .ref kt, .ref kq, .int (nI (sD S1_u_1)), .int (sM S1_u_1), .float (sP S1_u_1), .int (sI S1_u_1), .int (sC S1_u_1), .int (sA S1_u_1), .int (sR S1_u_1), .int (nI (sK S1_u_1))])), (ks, .inl (E 1, 4, .inr (.inr (.inl (sF S1_u_1))))), (kt, .inl (E 0, 4, .inl (sT S1_u_1))), (kq, .inl (E 0, 18, .inl (sW S1_u_1))), (wa, .inl (E 0, 16, .inl (wgP nw nf fl x S (15 - sD S) g 16)))] H locs := hw
      exact g_iretE (J1_u_1, S1_u_1) hQ hc hw hr rfl rfl dX5_lost_117
    | succ k9 ih =>
      intro a h9   H locs ls hw hl
      have h9b : a < 16 := by omega
      refine lv_iload hx hb dX5_lost_37 (lv_at hl 5 rfl) ?_
      refine lv_bipush (v := 15) hx hb dX5_lost_39 (by decide) ?_
      refine lv_icmp_gt (tgt := 102) hx hb dX5_lost_41 (by decide) (fun c_41 => absurd c_41 (nI_nlt (show a ≤ 15 by omega) (by decide))) (fun c_41 => ?_)
      refine lv_iload hx hb dX5_lost_44 (lv_at hl 5 rfl) ?_
      refine lv_iload_n hx hb dX5_lost_46 rfl (lv_at hl 3 rfl) ?_
      refine lv_iconst (v := (-1)) hx hb dX5_lost_47 (by decide) ?_
      refine lv_ixor hx hb dX5_lost_48 ?_
      refine lv_iand hx hb dX5_lost_49 ?_
      refine lv_if_ne (tgt := 96) hx hb dX5_lost_50 (by decide) (fun c_50 => ?_) (fun c_50 => ?_)
      · skip
        have h50 : ¬ a &&& (15 - sD S) = a := fun q => c_50 ((sb16 a (by omega) (15 - sD S) (by omega)).mpr q)
        refine lv_iinc (v := nI (a + 1)) (lv' := [(5, .int (nI (a + 1))), (0, .ref ob), (1, .int (nI v)), (2, .int (b2i up)), (3, .int (nI (15 - sD S))), (4, .int (nI (loN (15 - sD S) v (wgP nw nf fl x S (15 - sD S) g 16) a)))]) hx hb dX5_lost_96 hl (k := 5) rfl (n_inc1 rfl) (by decide) rfl (fun ls hl => ?_)
        refine lv_goto (tgt := 37) hx hb dX5_lost_99 (by decide) ?_
        have hl := lv_conv hl 5 rfl (v' := (.int (nI (loN (15 - sD S) v (wgP nw nf fl x S (15 - sD S) g 16) (a + 1))))) (by exact congrArg (fun z => Value.int (nI z)) ((if_neg (fun q => h50 q.1)).symm))
        have hl : lv_has ls 6 [(5, .int (nI (a + 1))), (0, .ref ob), (1, .int (nI v)), (2, .int (b2i up)), (3, .int (nI (15 - sD S))), (4, .int (nI (loN (15 - sD S) v (wgP nw nf fl x S (15 - sD S) g 16) (a + 1))))] := hl
        exact ih (a + 1) (by omega)   _ _ _ hw (lv_sub hl [1, 2, 3, 4, 5, 0] rfl)
      · skip
        have h50 : a &&& (15 - sD S) = a := (sb16 a (by omega) (15 - sD S) (by omega)).mp c_50
        refine lv_aload_n hx hb dX5_lost_53 rfl (lv_at hl 0 rfl) ?_
        refine g_get (TT := TX5) hc hw inX5_lost_X5 0 8 2 rfl rfl (by decide) rfl rfl dX5_lost_54 ?_
        refine lv_iload hx hb dX5_lost_57 (lv_at hl 5 rfl) ?_
        refine g_ild hc hw 15 a rfl rfl (by omega) (by decide) dX5_lost_59 ?_
        refine lv_bipush (v := 20) hx hb dX5_lost_60 (by decide) ?_
        refine lv_icmp_ne (tgt := 96) hx hb dX5_lost_62 (by decide) (fun c_62 => ?_) (fun c_62 => ?_)
        · skip
          refine lv_iinc (v := nI (a + 1)) (lv' := [(5, .int (nI (a + 1))), (0, .ref ob), (1, .int (nI v)), (2, .int (b2i up)), (3, .int (nI (15 - sD S))), (4, .int (nI (loN (15 - sD S) v (wgP nw nf fl x S (15 - sD S) g 16) a)))]) hx hb dX5_lost_96 hl (k := 5) rfl (n_inc1 rfl) (by decide) rfl (fun ls hl => ?_)
          refine lv_goto (tgt := 37) hx hb dX5_lost_99 (by decide) ?_
          have hl := lv_conv hl 5 rfl (v' := (.int (nI (loN (15 - sD S) v (wgP nw nf fl x S (15 - sD S) g 16) (a + 1))))) (by exact congrArg (fun z => Value.int (nI z)) ((if_neg (fun q => c_62 q.2)).symm))
          have hl : lv_has ls 6 [(5, .int (nI (a + 1))), (0, .ref ob), (1, .int (nI v)), (2, .int (b2i up)), (3, .int (nI (15 - sD S))), (4, .int (nI (loN (15 - sD S) v (wgP nw nf fl x S (15 - sD S) g 16) (a + 1))))] := hl
          exact ih (a + 1) (by omega)   _ _ _ hw (lv_sub hl [1, 2, 3, 4, 5, 0] rfl)
        · skip
          have n62 := c_62
          refine lv_iload hx hb dX5_lost_65 (lv_at hl 4 rfl) ?_
          refine lv_bipush (v := 10) hx hb dX5_lost_67 (by decide) ?_
          refine lv_iload_n hx hb dX5_lost_69 rfl (lv_at hl 1 rfl) ?_
          refine lv_isub hx hb dX5_lost_70 ?_
          refine lv_iload hx hb dX5_lost_71 (lv_at hl 5 rfl) ?_
          refine g_cS (As := [.int (nI a)]) (n := 1) (rest := [.int (10 - (nI v)), .int (nI (loN (15 - sD S) v (wgP nw nf fl x S (15 - sD S) g 16) a))]) (wc := []) (w1 := []) (bytes := cJ6_bitCount_0f7a4) (maxL := 1) (ret := (some .int)) hc hw hl.1 (m_J6_bitCount_0f7a4 (l := l) (D := D) (E := E) (T := T) a (by omega)) gX5_lost_J6_bitCount_0f7a4 rfl (by decide +kernel) (by rw [hR]; exact ⟨Nat.le_of_ble_eq_true rfl, Nat.le_of_ble_eq_true rfl⟩) [] (by decide) rfl [] rfl rfl rfl rfl (Nat.le_of_ble_eq_true rfl) dX5_lost_73 ⟨Nat.zero_le _, Nat.zero_le _⟩ (fun H locs hw => ?_)
          have hw : g_W D A s [(ob, .inr (5, [z0, .ref pl, .ref h, .ref kh, z4, z5, z6, z7, .ref wa, z9, z10])), (pl, .inr (1, [.ref fa, .int (nI nf), .int (nI nw), .ref xa, .ref ba, .ref pa, .ref aa, .int (jS J1_u_1), .int (jN J1_u_1), .float (jH J1_u_1)])), (fa, .inl (E 0, 18, .inl fl)), (xa, .inl (E 0, 3, .inl x)), (ba, .inl (E 0, 12, .inl (jB J1_u_1))), (pa, .inl (E 1, 4, .inr (.inr (.inl (jE J1_u_1))))), (aa, .inl (E 1, 4, .inr (.inr (.inl (jA J1_u_1))))), (h, .inr (4, [.ref hs, .ref ht, .ref hq, .int (nI (sD S)), .int (sM S), .float (sP S), .int (sI S), .int (sC S), .int (sA S), .int (sR S), .int (nI (sK S))])), (hs, .inl (E 1, 4, .inr (.inr (.inl (sF S))))), (ht, .inl (E 0, 4, .inl (sT S))), (hq, .inl (E 0, 18, .inl (sW S))), (kh, .inr (4, [.ref ks, .ref kt, .ref kq, .int (nI (sD S1_u_1)), .int (sM S1_u_1), .float (sP S1_u_1), .int (sI S1_u_1), .int (sC S1_u_1), .int (sA S1_u_1), .int (sR S1_u_1), .int (nI (sK S1_u_1))])), (ks, .inl (E 1, 4, .inr (.inr (.inl (sF S1_u_1))))), (kt, .inl (E 0, 4, .inl (sT S1_u_1))), (kq, .inl (E 0, 18, .inl (sW S1_u_1))), (wa, .inl (E 0, 16, .inl (wgP nw nf fl x S (15 - sD S) g 16)))] H locs := hw
          refine g_cS (As := [.int (10 - (nI v)), .int (nI (pcn a))]) (n := 2) (rest := [.int (nI (loN (15 - sD S) v (wgP nw nf fl x S (15 - sD S) g 16) a))]) (wc := []) (w1 := []) (bytes := cX5_power) (maxL := 4) (ret := (some .int)) hc hw hl.1 (m_X5_power (l := l) (D := D) (E := E) (T := T) (10 - (nI v)) (pcn a) (by have := pcn_lt (a) (by omega); omega)) gX5_lost_X5_power rfl (by decide +kernel) (by rw [hR]; exact ⟨Nat.le_of_ble_eq_true rfl, Nat.le_of_ble_eq_true rfl⟩) [] (by decide) rfl [] rfl rfl rfl rfl (Nat.le_of_ble_eq_true rfl) dX5_lost_76 ⟨Nat.zero_le _, Nat.zero_le _⟩ (fun H locs hw => ?_)
          have hw : g_W D A s [(ob, .inr (5, [z0, .ref pl, .ref h, .ref kh, z4, z5, z6, z7, .ref wa, z9, z10])), (pl, .inr (1, [.ref fa, .int (nI nf), .int (nI nw), .ref xa, .ref ba, .ref pa, .ref aa, .int (jS J1_u_1), .int (jN J1_u_1), .float (jH J1_u_1)])), (fa, .inl (E 0, 18, .inl fl)), (xa, .inl (E 0, 3, .inl x)), (ba, .inl (E 0, 12, .inl (jB J1_u_1))), (pa, .inl (E 1, 4, .inr (.inr (.inl (jE J1_u_1))))), (aa, .inl (E 1, 4, .inr (.inr (.inl (jA J1_u_1))))), (h, .inr (4, [.ref hs, .ref ht, .ref hq, .int (nI (sD S)), .int (sM S), .float (sP S), .int (sI S), .int (sC S), .int (sA S), .int (sR S), .int (nI (sK S))])), (hs, .inl (E 1, 4, .inr (.inr (.inl (sF S))))), (ht, .inl (E 0, 4, .inl (sT S))), (hq, .inl (E 0, 18, .inl (sW S))), (kh, .inr (4, [.ref ks, .ref kt, .ref kq, .int (nI (sD S1_u_1)), .int (sM S1_u_1), .float (sP S1_u_1), .int (sI S1_u_1), .int (sC S1_u_1), .int (sA S1_u_1), .int (sR S1_u_1), .int (nI (sK S1_u_1))])), (ks, .inl (E 1, 4, .inr (.inr (.inl (sF S1_u_1))))), (kt, .inl (E 0, 4, .inl (sT S1_u_1))), (kq, .inl (E 0, 18, .inl (sW S1_u_1))), (wa, .inl (E 0, 16, .inl (wgP nw nf fl x S (15 - sD S) g 16)))] H locs := hw
          refine W.eq (congrArg (fun z => F0 m 79 ls (.int z :: [.int (nI (loN (15 - sD S) v (wgP nw nf fl x S (15 - sD S) g 16) a))])) (show (pwF (10 - (nI v)) (pcn a) : Int32) = nI ((10 - v) ^ pcn a) from (by rw [show (10 : Int32) - nI v = nI (10 - v) from n_sub (a := 10) rfl rfl (by omega), pw_n]))) ?_
          refine lv_iload_n hx hb dX5_lost_79 rfl (lv_at hl 1 rfl) ?_
          refine lv_iload_n hx hb dX5_lost_80 rfl (lv_at hl 3 rfl) ?_
          refine lv_iload hx hb dX5_lost_81 (lv_at hl 5 rfl) ?_
          refine lv_iconst (v := (-1)) hx hb dX5_lost_83 (by decide) ?_
          refine lv_ixor hx hb dX5_lost_84 ?_
          refine lv_iand hx hb dX5_lost_85 ?_
          refine W.eq (congrArg (fun z => F0 m 86 ls (.int z :: [.int (nI v), .int (nI ((10 - v) ^ pcn a)), .int (nI (loN (15 - sD S) v (wgP nw nf fl x S (15 - sD S) g 16) a))])) (show ((nI (15 - sD S)) &&& ((nI a) ^^^ (-1)) : Int32) = nI (15 - sD S - a) from (and_sub _ (by omega) _ (by omega) h50))) ?_
          refine g_cS (As := [.int (nI (15 - sD S - a))]) (n := 1) (rest := [.int (nI v), .int (nI ((10 - v) ^ pcn a)), .int (nI (loN (15 - sD S) v (wgP nw nf fl x S (15 - sD S) g 16) a))]) (wc := []) (w1 := []) (bytes := cJ6_bitCount_0f7a4) (maxL := 1) (ret := (some .int)) hc hw hl.1 (m_J6_bitCount_0f7a4 (l := l) (D := D) (E := E) (T := T) (15 - sD S - a) (by omega)) gX5_lost_J6_bitCount_0f7a4 rfl (by decide +kernel) (by rw [hR]; exact ⟨Nat.le_of_ble_eq_true rfl, Nat.le_of_ble_eq_true rfl⟩) [] (by decide) rfl [] rfl rfl rfl rfl (Nat.le_of_ble_eq_true rfl) dX5_lost_86 ⟨Nat.zero_le _, Nat.zero_le _⟩ (fun H locs hw => ?_)
          have hw : g_W D A s [(ob, .inr (5, [z0, .ref pl, .ref h, .ref kh, z4, z5, z6, z7, .ref wa, z9, z10])), (pl, .inr (1, [.ref fa, .int (nI nf), .int (nI nw), .ref xa, .ref ba, .ref pa, .ref aa, .int (jS J1_u_1), .int (jN J1_u_1), .float (jH J1_u_1)])), (fa, .inl (E 0, 18, .inl fl)), (xa, .inl (E 0, 3, .inl x)), (ba, .inl (E 0, 12, .inl (jB J1_u_1))), (pa, .inl (E 1, 4, .inr (.inr (.inl (jE J1_u_1))))), (aa, .inl (E 1, 4, .inr (.inr (.inl (jA J1_u_1))))), (h, .inr (4, [.ref hs, .ref ht, .ref hq, .int (nI (sD S)), .int (sM S), .float (sP S), .int (sI S), .int (sC S), .int (sA S), .int (sR S), .int (nI (sK S))])), (hs, .inl (E 1, 4, .inr (.inr (.inl (sF S))))), (ht, .inl (E 0, 4, .inl (sT S))), (hq, .inl (E 0, 18, .inl (sW S))), (kh, .inr (4, [.ref ks, .ref kt, .ref kq, .int (nI (sD S1_u_1)), .int (sM S1_u_1), .float (sP S1_u_1), .int (sI S1_u_1), .int (sC S1_u_1), .int (sA S1_u_1), .int (sR S1_u_1), .int (nI (sK S1_u_1))])), (ks, .inl (E 1, 4, .inr (.inr (.inl (sF S1_u_1))))), (kt, .inl (E 0, 4, .inl (sT S1_u_1))), (kq, .inl (E 0, 18, .inl (sW S1_u_1))), (wa, .inl (E 0, 16, .inl (wgP nw nf fl x S (15 - sD S) g 16)))] H locs := hw
          refine g_cS (As := [.int (nI v), .int (nI (pcn (15 - sD S - a)))]) (n := 2) (rest := [.int (nI ((10 - v) ^ pcn a)), .int (nI (loN (15 - sD S) v (wgP nw nf fl x S (15 - sD S) g 16) a))]) (wc := []) (w1 := []) (bytes := cX5_power) (maxL := 4) (ret := (some .int)) hc hw hl.1 (m_X5_power (l := l) (D := D) (E := E) (T := T) (nI v) (pcn (15 - sD S - a)) (by have := pcn_lt (15 - sD S - a) (by omega); omega)) gX5_lost_X5_power rfl (by decide +kernel) (by rw [hR]; exact ⟨Nat.le_of_ble_eq_true rfl, Nat.le_of_ble_eq_true rfl⟩) [] (by decide) rfl [] rfl rfl rfl rfl (Nat.le_of_ble_eq_true rfl) dX5_lost_89 ⟨Nat.zero_le _, Nat.zero_le _⟩ (fun H locs hw => ?_)
          have hw : g_W D A s [(ob, .inr (5, [z0, .ref pl, .ref h, .ref kh, z4, z5, z6, z7, .ref wa, z9, z10])), (pl, .inr (1, [.ref fa, .int (nI nf), .int (nI nw), .ref xa, .ref ba, .ref pa, .ref aa, .int (jS J1_u_1), .int (jN J1_u_1), .float (jH J1_u_1)])), (fa, .inl (E 0, 18, .inl fl)), (xa, .inl (E 0, 3, .inl x)), (ba, .inl (E 0, 12, .inl (jB J1_u_1))), (pa, .inl (E 1, 4, .inr (.inr (.inl (jE J1_u_1))))), (aa, .inl (E 1, 4, .inr (.inr (.inl (jA J1_u_1))))), (h, .inr (4, [.ref hs, .ref ht, .ref hq, .int (nI (sD S)), .int (sM S), .float (sP S), .int (sI S), .int (sC S), .int (sA S), .int (sR S), .int (nI (sK S))])), (hs, .inl (E 1, 4, .inr (.inr (.inl (sF S))))), (ht, .inl (E 0, 4, .inl (sT S))), (hq, .inl (E 0, 18, .inl (sW S))), (kh, .inr (4, [.ref ks, .ref kt, .ref kq, .int (nI (sD S1_u_1)), .int (sM S1_u_1), .float (sP S1_u_1), .int (sI S1_u_1), .int (sC S1_u_1), .int (sA S1_u_1), .int (sR S1_u_1), .int (nI (sK S1_u_1))])), (ks, .inl (E 1, 4, .inr (.inr (.inl (sF S1_u_1))))), (kt, .inl (E 0, 4, .inl (sT S1_u_1))), (kq, .inl (E 0, 18, .inl (sW S1_u_1))), (wa, .inl (E 0, 16, .inl (wgP nw nf fl x S (15 - sD S) g 16)))] H locs := hw
          refine W.eq (congrArg (fun z => F0 m 92 ls (.int z :: [.int (nI ((10 - v) ^ pcn a)), .int (nI (loN (15 - sD S) v (wgP nw nf fl x S (15 - sD S) g 16) a))])) (show (pwF (nI v) (pcn (15 - sD S - a)) : Int32) = nI (v ^ pcn (15 - sD S - a)) from (pw_n v _))) ?_
          refine lv_imul hx hb dX5_lost_92 ?_
          refine lv_iadd hx hb dX5_lost_93 ?_
          refine W.eq (congrArg (fun z => F0 m 94 ls (.int z :: [])) (show ((nI (loN (15 - sD S) v (wgP nw nf fl x S (15 - sD S) g 16) a)) + ((nI ((10 - v) ^ pcn a)) * (nI (v ^ pcn (15 - sD S - a)))) : Int32) = nI (loN (15 - sD S) v (wgP nw nf fl x S (15 - sD S) g 16) a + (10 - v) ^ pcn a * v ^ pcn (15 - sD S - a)) from (n_add rfl (n_mul rfl rfl)))) ?_
          refine lv_istore (lv' := [(4, .int (nI (loN (15 - sD S) v (wgP nw nf fl x S (15 - sD S) g 16) a + (10 - v) ^ pcn a * v ^ pcn (15 - sD S - a)))), (0, .ref ob), (1, .int (nI v)), (2, .int (b2i up)), (3, .int (nI (15 - sD S))), (5, .int (nI a))]) hx hb dX5_lost_94 hl (by decide) rfl (fun ls hl => ?_)
          refine lv_iinc (v := nI (a + 1)) (lv' := [(5, .int (nI (a + 1))), (4, .int (nI (loN (15 - sD S) v (wgP nw nf fl x S (15 - sD S) g 16) a + (10 - v) ^ pcn a * v ^ pcn (15 - sD S - a)))), (0, .ref ob), (1, .int (nI v)), (2, .int (b2i up)), (3, .int (nI (15 - sD S)))]) hx hb dX5_lost_96 hl (k := 5) rfl (n_inc1 rfl) (by decide) rfl (fun ls hl => ?_)
          refine lv_goto (tgt := 37) hx hb dX5_lost_99 (by decide) ?_
          have hl := lv_conv hl 1 rfl (v' := (.int (nI (loN (15 - sD S) v (wgP nw nf fl x S (15 - sD S) g 16) (a + 1))))) (by exact congrArg (fun z => Value.int (nI z)) ((if_pos ⟨h50, n62⟩).symm))
          have hl : lv_has ls 6 [(5, .int (nI (a + 1))), (4, .int (nI (loN (15 - sD S) v (wgP nw nf fl x S (15 - sD S) g 16) (a + 1)))), (0, .ref ob), (1, .int (nI v)), (2, .int (b2i up)), (3, .int (nI (15 - sD S)))] := hl
          exact ih (a + 1) (by omega)   _ _ _ hw (lv_sub hl [2, 3, 4, 5, 1, 0] rfl)
  have hl := lv_conv hl 1 rfl (v' := (.int (nI (loN (15 - sD S) v (wgP nw nf fl x S (15 - sD S) g 16) 0)))) (by rfl)
  have hl : lv_has ls 6 [(5, .int 0), (4, .int (nI (loN (15 - sD S) v (wgP nw nf fl x S (15 - sD S) g 16) 0))), (3, .int (nI (15 - sD S))), (0, .ref ob), (1, .int (nI v)), (2, .int (b2i up))] := hl
  exact J37 16 0 (by omega)   _ _ _ hw (lv_sub hl [3, 4, 5, 2, 1, 0] rfl)
end P19j
