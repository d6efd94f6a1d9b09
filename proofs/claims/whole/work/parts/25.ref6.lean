section P25
theorem bit_i : ∀ d, d < 16 → ∀ i, i < 4 → ((nI d >>> (nI i &&& 31)) &&& 1) = b2i (d.testBit i) := by decide +kernel
theorem nI_m1 {n : Nat} (h : n ≤ 6) : (nI n - 1).toInt = (n : Int) - 1 := by
  rcases (show n = 0 ∨ n = 1 ∨ n = 2 ∨ n = 3 ∨ n = 4 ∨ n = 5 ∨ n = 6 by omega) with rfl | rfl | rfl | rfl | rfl | rfl | rfl <;> decide
theorem nI_ti {n : Nat} (h : n < 2 ^ 31) : (nI n).toInt = (n : Int) := by
  rw [show nI n = Int32.ofInt n from nI_ofInt n]
  exact Int32.toInt_ofInt_of_le (by omega) (by omega)
theorem in_rN {n : Nat} {v : Int32} (hn : n ≤ 6) (h : 0 ≤ v → ¬ v < nI n) : inL v.toInt64 0 ((nI n - 1).toInt64) = false := by
  rw [in_e v (a := 0) (b := nI n - 1) (by decide) rfl]
  have : outB v 0 (nI n - 1) = true := by
    unfold outB
    refine decide_eq_true ?_
    by_cases c : v < 0
    · exact Or.inl c
    · refine Or.inr ?_
      have q := h (Int32.not_lt.mp c)
      rw [Int32.lt_iff_toInt_lt, nI_ti (by omega)] at q
      rw [Int32.lt_iff_toInt_lt, nI_m1 hn]
      omega
  rw [this]
  rfl
theorem in_rT {n r9 : Nat} (hn : n ≤ 6) (h : r9 < n) : inL (nI r9).toInt64 0 ((nI n - 1).toInt64) = true := by
  rw [in_e (nI r9) (a := 0) (b := nI n - 1) (by decide) rfl]
  have : outB (nI r9) 0 (nI n - 1) = false := by
    unfold outB
    refine decide_eq_false ?_
    rw [Int32.lt_iff_toInt_lt, Int32.lt_iff_toInt_lt, nI_m1 hn, nI_ti (by omega)]
    have : (0 : Int32).toInt = 0 := by decide
    omega
  rw [this]
  rfl
/-- a piece laid over -/
def ovI (g : Nat → Int32) (a : Nat) (f : Nat → Int32) (n : Nat) : Nat → Int32 := fun j => if a ≤ j ∧ j < a + n then f (j - a) else g j
def ovF (g : Nat → UInt32) (a : Nat) (f : Nat → UInt32) (n : Nat) : Nat → UInt32 := fun j => if a ≤ j ∧ j < a + n then f (j - a) else g j
theorem ovI_0 (g : Nat → Int32) (a : Nat) (f : Nat → Int32) : g = ovI g a f 0 := by
  funext j
  exact (if_neg (by omega)).symm
theorem ovF_0 (g : Nat → UInt32) (a : Nat) (f : Nat → UInt32) : g = ovF g a f 0 := by
  funext j
  exact (if_neg (by omega)).symm
theorem ovI_s {f : Nat → Int32} (g : Nat → Int32) (a : Nat) {i : Nat} {v : Int32} (h : v = f i) : upd (ovI g a f i) (a + i) v = ovI g a f (i + 1) := by
  funext j
  simp only [upd, ovI]
  by_cases hj : j = a + i
  · subst hj
    rw [if_pos rfl, if_pos (by omega), h, Nat.add_sub_cancel_left]
  · rw [if_neg hj]
    have : (a ≤ j ∧ j < a + i) ↔ (a ≤ j ∧ j < a + (i + 1)) := by omega
    simp only [this]
theorem ovF_s {f : Nat → UInt32} (g : Nat → UInt32) (a : Nat) {i : Nat} {v : UInt32} (h : v = f i) : vf_upd (ovF g a f i) (a + i) v = ovF g a f (i + 1) := by
  funext j
  simp only [vf_upd, ovF]
  by_cases hj : j = a + i
  · subst hj
    rw [if_pos rfl, if_pos (by omega), h, Nat.add_sub_cancel_left]
  · rw [if_neg hj]
    have : (a ≤ j ∧ j < a + i) ↔ (a ≤ j ∧ j < a + (i + 1)) := by omega
    simp only [this]
theorem cpI_far (f g : Nat → Int32) {n j : Nat} (h : n ≤ j) : cpI f g n j = g j := if_neg (by omega)
theorem cpF_far (f g : Nat → UInt32) {n j : Nat} (h : n ≤ j) : cpF f g n j = g j := if_neg (by omega)
def noI0 (d : Nat) (bb : Nat → Int32) : Nat → Int32 := if d = 14 then cpI (fun j => bb (j + 29)) bb 377 else bb
def noF0 (d : Nat) (bf : Nat → UInt32) : Nat → UInt32 := if d = 14 then cpF (fun j => bf (j + 5)) bf 65 else bf
def noI (d : Nat) (bb : Nat → Int32) (S : TS) : Nat → Int32 := ovI (noI0 d bb) (29 * min d 13) (pgF S) 29
def noF (d : Nat) (bf : Nat → UInt32) (S : TS) : Nat → UInt32 := ovF (noF0 d bf) (5 * min d 13) (fl5 S) 5
theorem pg_Tr (S : TS) {k : Nat} (h : k ≤ 3) : pgF S (7 + k) = sT S k := by
  rcases (show k = 0 ∨ k = 1 ∨ k = 2 ∨ k = 3 by omega) with rfl | rfl | rfl | rfl <;> rfl
theorem pg_Tk (S : TS) {k : Nat} (v : Int32) (h : k ≤ 3) : upd (pgF S) (7 + k) v = pgF (stS S k v) := by
  rcases (show k = 0 ∨ k = 1 ∨ k = 2 ∨ k = 3 by omega) with rfl | rfl | rfl | rfl
  · exact pg_T7 S v
  · exact pg_T8 S v
  · exact pg_T9 S v
  · exact pg_T10 S v
theorem pg_W0r (S : TS) (r9 : Nat) : pgF S (11 + 3 * r9) = sW S (r9 * 3) := by
  rw [pgF_w, Nat.mul_comm]
theorem pg_W0 (S : TS) (r : Nat) (v : Int32) : upd (pgF S) (11 + 3 * r) v = pgF (wW S (upd (sW S) (r * 3) v)) := pg_Wk S r 0 v
theorem dX6_wheel_0 : decode cX6_wheel 0 = .ok (.aload_n 0, 1) := by decide +kernel
theorem dX6_wheel_1 : decode cX6_wheel 1 = .ok (.iconst 0, 1) := by decide +kernel
theorem dX6_wheel_2 : decode cX6_wheel 2 = .ok (.putfield 88, 3) := by decide +kernel
theorem dX6_wheel_5 : decode cX6_wheel 5 = .ok (.iload_n 1, 1) := by decide +kernel
theorem dX6_wheel_6 : decode cX6_wheel 6 = .ok (.invokestatic 213, 3) := by decide +kernel
theorem dX6_wheel_9 : decode cX6_wheel 9 = .ok (.ifCond .eq 5, 3) := by decide +kernel
theorem dX6_wheel_12 : decode cX6_wheel 12 = .ok (.iconst (-1), 1) := by decide +kernel
theorem dX6_wheel_13 : decode cX6_wheel 13 = .ok (.ireturn, 1) := by decide +kernel
set_option maxRecDepth 20000 in
theorem ggX6_wheel_X6_noWheel : GoodIn wsX6_wheel wsX6_noWheel := goodIn_r _ [8, 9, 10, 11, 7, 12] rfl (by decide +kernel)
set_option maxRecDepth 20000 in
theorem gX6_wheel_X6_noWheel : GoodIn wsX6_wheel (va_wsS RX6 213 yX6_noWheel wsX6_noWheel) := goodIn_app (goodIn_of _ (by decide +kernel)) ggX6_wheel_X6_noWheel
theorem inX6_wheel_X6 : ∀ w ∈ u_ws RX6 TX6 36, w ∈ wsX6_wheel := fun w h => List.mem_cons_of_mem _ (List.mem_append_right _ h)
set_option maxRecDepth 100000 in
set_option maxHeartbeats 4000000 in
theorem m_X6_wheel_out {l : Launch} {D : va_G} {E : Nat → ClassId} {T : Nat → Nat} (o : Nat) (u0 : Value) (u1 : Value) (u2 : Value) (u3 : Value) (u4 : Value) (u5 : Value) (u6 : Value) (u7 : Value) (u8 : Value) (u9 : Value) (u10 : Value) (u11 : Value) (u12 : Value) (u13 : Value) (u14 : Value) (u15 : Value) (u16 : Value) (u17 : Value) (u18 : Value) (u19 : Value) (u20 : Value) (u21 : Value) (u22 : Value) (u23 : Value) (u24 : Value) (u25 : Value) (u26 : Value) (u27 : Value) (u28 : Value) (u29 : Value) (u30 : Value) (u31 : Value) (u32 : Value) (u33 : Value) (u34 : Value) (u35 : Value) (v : Int32) (w : Int32) (ho : outB v 0 3 = true) : g_M l D E T yX6_wheel wsX6_wheel 2 45 [.ref o, .int v, .int w] [(o, .inr (6, [u0, u1, u2, u3, u4, u5, u6, u7, u8, u9, u10, u11, u12, u13, u14, u15, u16, u17, u18, u19, u20, u21, u22, u23, u24, u25, u26, u27, u28, u29, u30, u31, u32, u33, u34, u35]))] [(o, .inr (6, [.int 0, u1, u2, u3, u4, u5, u6, u7, u8, u9, u10, u11, u12, u13, u14, u15, u16, u17, u18, u19, u20, u21, u22, u23, u24, u25, u26, u27, u28, u29, u30, u31, u32, u33, u34, u35]))] (some (.int (-1))) := by
  refine g_M.of (cc := cX6_wheel) (nL := 3) (ret := (some .int)) (own := RX6) (lv := [(0, .ref o), (1, .int v), (2, .int w)]) (by decide) rfl rfl (Nat.le_of_ble_eq_true rfl) rfl ?_
  intro p e R s m args below meth c A Q H locs ls hR hQ hc hr hw hl
  have hx := hc.1
  have hb := hc.2.1
  have hts := hc.2.2.2.1
  have hown := hc.2.2.2.2.1
  refine lv_aload_n hx hb dX6_wheel_0 rfl (lv_at hl 0 rfl) ?_
  refine lv_iconst (v := 0) hx hb dX6_wheel_1 (by decide) ?_
  refine g_put (TT := TX6) hc hw inX6_wheel_X6 tyX6 tyX6_ok nmX6 0 0 1 rfl rfl (by decide) rfl rfl rfl rfl (Nat.le_of_ble_eq_true rfl) dX6_wheel_2 (fun H locs hw => ?_)
  have hw : g_W D A s [(o, .inr (6, [.int 0, u1, u2, u3, u4, u5, u6, u7, u8, u9, u10, u11, u12, u13, u14, u15, u16, u17, u18, u19, u20, u21, u22, u23, u24, u25, u26, u27, u28, u29, u30, u31, u32, u33, u34, u35]))] H locs := hw
  refine lv_iload_n hx hb dX6_wheel_5 rfl (lv_at hl 1 rfl) ?_
  refine g_cS (As := [.int v]) (n := 1) (rest := []) (wc := []) (w1 := []) (bytes := cX6_noWheel) (maxL := 1) (ret := (some .boolean)) hc hw hl.1 (m_X6_noWheel (l := l) (D := D) (E := E) (T := T) v) gX6_wheel_X6_noWheel rfl (by decide +kernel) (by rw [hR]; exact ⟨Nat.le_of_ble_eq_true rfl, Nat.le_of_ble_eq_true rfl⟩) [] (by decide) rfl [] rfl rfl rfl rfl (Nat.le_of_ble_eq_true rfl) dX6_wheel_6 ⟨Nat.zero_le _, Nat.zero_le _⟩ (fun H locs hw => ?_)
  have hw : g_W D A s [(o, .inr (6, [.int 0, u1, u2, u3, u4, u5, u6, u7, u8, u9, u10, u11, u12, u13, u14, u15, u16, u17, u18, u19, u20, u21, u22, u23, u24, u25, u26, u27, u28, u29, u30, u31, u32, u33, u34, u35]))] H locs := hw
  refine W.eq (congrArg (fun z => F0 m 9 ls (.int z :: [])) (show (b2i (outB v 0 3) : Int32) = 1 from (congrArg b2i ho))) ?_
  refine lv_if_eq (tgt := 14) hx hb dX6_wheel_9 (by decide) (fun c_9 => absurd c_9 (by decide)) (fun c_9 => ?_)
  refine lv_iconst (v := (-1)) hx hb dX6_wheel_12 (by decide) ?_
  exact g_iret hQ hc hw hr rfl rfl dX6_wheel_13

theorem dX6_wheel_14 : decode cX6_wheel 14 = .ok (.iload_n 2, 1) := by decide +kernel
theorem dX6_wheel_15 : decode cX6_wheel 15 = .ok (.tableswitch 81 0 5 #[37, 47, 57, 68, 68, 68], 37) := by decide +kernel
theorem dX6_wheel_52 : decode cX6_wheel 52 = .ok (.aload_n 0, 1) := by decide +kernel
theorem dX6_wheel_53 : decode cX6_wheel 53 = .ok (.getfield 28, 3) := by decide +kernel
theorem dX6_wheel_56 : decode cX6_wheel 56 = .ok (.iload_n 1, 1) := by decide +kernel
theorem dX6_wheel_57 : decode cX6_wheel 57 = .ok (.faload, 1) := by decide +kernel
theorem dX6_wheel_58 : decode cX6_wheel 58 = .ok (.invokestatic 216, 3) := by decide +kernel
theorem dX6_wheel_61 : decode cX6_wheel 61 = .ok (.ireturn, 1) := by decide +kernel
theorem dX6_wheel_62 : decode cX6_wheel 62 = .ok (.aload_n 0, 1) := by decide +kernel
theorem dX6_wheel_63 : decode cX6_wheel 63 = .ok (.getfield 28, 3) := by decide +kernel
theorem dX6_wheel_66 : decode cX6_wheel 66 = .ok (.iload_n 1, 1) := by decide +kernel
theorem dX6_wheel_67 : decode cX6_wheel 67 = .ok (.faload, 1) := by decide +kernel
theorem dX6_wheel_68 : decode cX6_wheel 68 = .ok (.invokestatic 222, 3) := by decide +kernel
theorem dX6_wheel_71 : decode cX6_wheel 71 = .ok (.ireturn, 1) := by decide +kernel
theorem dX6_wheel_72 : decode cX6_wheel 72 = .ok (.aload_n 0, 1) := by decide +kernel
theorem dX6_wheel_73 : decode cX6_wheel 73 = .ok (.getfield 25, 3) := by decide +kernel
theorem dX6_wheel_76 : decode cX6_wheel 76 = .ok (.iconst 0, 1) := by decide +kernel
theorem dX6_wheel_77 : decode cX6_wheel 77 = .ok (.iaload, 1) := by decide +kernel
theorem dX6_wheel_78 : decode cX6_wheel 78 = .ok (.iload_n 1, 1) := by decide +kernel
theorem dX6_wheel_79 : decode cX6_wheel 79 = .ok (.ishr, 1) := by decide +kernel
theorem dX6_wheel_80 : decode cX6_wheel 80 = .ok (.iconst 1, 1) := by decide +kernel
theorem dX6_wheel_81 : decode cX6_wheel 81 = .ok (.iand, 1) := by decide +kernel
theorem dX6_wheel_82 : decode cX6_wheel 82 = .ok (.ireturn, 1) := by decide +kernel
theorem dX6_wheel_83 : decode cX6_wheel 83 = .ok (.aload_n 0, 1) := by decide +kernel
theorem dX6_wheel_84 : decode cX6_wheel 84 = .ok (.getfield 13, 3) := by decide +kernel
theorem dX6_wheel_87 : decode cX6_wheel 87 = .ok (.iconst 3, 1) := by decide +kernel
theorem dX6_wheel_88 : decode cX6_wheel 88 = .ok (.iload_n 1, 1) := by decide +kernel
theorem dX6_wheel_89 : decode cX6_wheel 89 = .ok (.imul, 1) := by decide +kernel
theorem dX6_wheel_90 : decode cX6_wheel 90 = .ok (.iload_n 2, 1) := by decide +kernel
theorem dX6_wheel_91 : decode cX6_wheel 91 = .ok (.iadd, 1) := by decide +kernel
theorem dX6_wheel_92 : decode cX6_wheel 92 = .ok (.iconst 3, 1) := by decide +kernel
theorem dX6_wheel_93 : decode cX6_wheel 93 = .ok (.isub, 1) := by decide +kernel
theorem dX6_wheel_94 : decode cX6_wheel 94 = .ok (.iaload, 1) := by decide +kernel
theorem dX6_wheel_95 : decode cX6_wheel 95 = .ok (.ireturn, 1) := by decide +kernel
theorem dX6_wheel_96 : decode cX6_wheel 96 = .ok (.bipush (-2), 2) := by decide +kernel
theorem dX6_wheel_98 : decode cX6_wheel 98 = .ok (.ireturn, 1) := by decide +kernel
set_option maxRecDepth 20000 in
theorem ggX6_wheel_Jxf58ca_floatToIntBits_5c35a : GoodIn wsX6_wheel wsJxf58ca_floatToIntBits_5c35a := goodIn_r _ [16, 17, 18, 19, 20, 21, 22, 23, 15, 24] rfl (by decide +kernel)
set_option maxRecDepth 20000 in
theorem gX6_wheel_Jxf58ca_floatToIntBits_5c35a : GoodIn wsX6_wheel (va_wsS RX6 216 yJxf58ca_floatToIntBits_5c35a wsJxf58ca_floatToIntBits_5c35a) := goodIn_app (goodIn_of _ (by decide +kernel)) ggX6_wheel_Jxf58ca_floatToIntBits_5c35a
set_option maxRecDepth 20000 in
theorem ggX6_wheel_X6_thousandths : GoodIn wsX6_wheel wsX6_thousandths := goodIn_r _ [27, 28] rfl (by decide +kernel)
set_option maxRecDepth 20000 in
theorem gX6_wheel_X6_thousandths : GoodIn wsX6_wheel (va_wsS RX6 222 yX6_thousandths wsX6_thousandths) := goodIn_app (goodIn_of _ (by decide +kernel)) ggX6_wheel_X6_thousandths
set_option maxRecDepth 100000 in
set_option maxHeartbeats 4000000 in
theorem m_X6_wheel {l : Launch} {D : va_G} {E : Nat → ClassId} {T : Nat → Nat} (o : Nat) (pa : Nat) (va : Nat) (xa : Nat) (n : Nat) (B : Nat) (u0 : Value) (u1 : Value) (u2 : Value) (u4 : Value) (u5 : Value) (u6 : Value) (u7 : Value) (u8 : Value) (u9 : Value) (u10 : Value) (u13 : Value) (u14 : Value) (u15 : Value) (u16 : Value) (u17 : Value) (u18 : Value) (u19 : Value) (u20 : Value) (u21 : Value) (u22 : Value) (u23 : Value) (u24 : Value) (u25 : Value) (u26 : Value) (u27 : Value) (u28 : Value) (u29 : Value) (u30 : Value) (u31 : Value) (u32 : Value) (u33 : Value) (u34 : Value) (u35 : Value) (S : TS) (w : Int32) (hn : n ≤ 3) (hok : OkS B S) : g_M l D E T yX6_wheel wsX6_wheel 2 45 [.ref o, .int (nI n), .int w] [(o, .inr (6, [u0, u1, u2, .ref xa, u4, u5, u6, u7, u8, u9, u10, .ref pa, .ref va, u13, u14, u15, u16, u17, u18, u19, u20, u21, u22, u23, u24, u25, u26, u27, u28, u29, u30, u31, u32, u33, u34, u35])), (xa, .inl (E 0, 12, .inl (g_tv 0))), (pa, .inl (E 0, 29, .inl (pgF S))), (va, .inl (E 1, 5, .inr (.inr (.inl (fl5 S)))))] [(o, .inr (6, [.int 0, u1, u2, .ref xa, u4, u5, u6, u7, u8, u9, u10, .ref pa, .ref va, u13, u14, u15, u16, u17, u18, u19, u20, u21, u22, u23, u24, u25, u26, u27, u28, u29, u30, u31, u32, u33, u34, u35])), (xa, .inl (E 0, 12, .inl (g_tv 0))), (pa, .inl (E 0, 29, .inl (pgF S))), (va, .inl (E 1, 5, .inr (.inr (.inl (fl5 S)))))] (some (.int (whF S n w))) := by
  refine g_M.of (cc := cX6_wheel) (nL := 3) (ret := (some .int)) (own := RX6) (lv := [(0, .ref o), (1, .int (nI n)), (2, .int w)]) (by decide) rfl rfl (Nat.le_of_ble_eq_true rfl) rfl ?_
  intro p e R s m args below meth c A Q H locs ls hR hQ hc hr hw hl
  have hx := hc.1
  have hb := hc.2.1
  have hts := hc.2.2.2.1
  have hown := hc.2.2.2.2.1
  refine lv_aload_n hx hb dX6_wheel_0 rfl (lv_at hl 0 rfl) ?_
  refine lv_iconst (v := 0) hx hb dX6_wheel_1 (by decide) ?_
  refine g_put (TT := TX6) hc hw inX6_wheel_X6 tyX6 tyX6_ok nmX6 0 0 1 rfl rfl (by decide) rfl rfl rfl rfl (Nat.le_of_ble_eq_true rfl) dX6_wheel_2 (fun H locs hw => ?_)
  have hw : g_W D A s [(o, .inr (6, [.int 0, u1, u2, .ref xa, u4, u5, u6, u7, u8, u9, u10, .ref pa, .ref va, u13, u14, u15, u16, u17, u18, u19, u20, u21, u22, u23, u24, u25, u26, u27, u28, u29, u30, u31, u32, u33, u34, u35])), (xa, .inl (E 0, 12, .inl (g_tv 0))), (pa, .inl (E 0, 29, .inl (pgF S))), (va, .inl (E 1, 5, .inr (.inr (.inl (fl5 S)))))] H locs := hw
  refine lv_iload_n hx hb dX6_wheel_5 rfl (lv_at hl 1 rfl) ?_
  refine g_cS (As := [.int (nI n)]) (n := 1) (rest := []) (wc := []) (w1 := []) (bytes := cX6_noWheel) (maxL := 1) (ret := (some .boolean)) hc hw hl.1 (m_X6_noWheel (l := l) (D := D) (E := E) (T := T) (nI n)) gX6_wheel_X6_noWheel rfl (by decide +kernel) (by rw [hR]; exact ⟨Nat.le_of_ble_eq_true rfl, Nat.le_of_ble_eq_true rfl⟩) [] (by decide) rfl [] rfl rfl rfl rfl (Nat.le_of_ble_eq_true rfl) dX6_wheel_6 ⟨Nat.zero_le _, Nat.zero_le _⟩ (fun H locs hw => ?_)
  have hw : g_W D A s [(o, .inr (6, [.int 0, u1, u2, .ref xa, u4, u5, u6, u7, u8, u9, u10, .ref pa, .ref va, u13, u14, u15, u16, u17, u18, u19, u20, u21, u22, u23, u24, u25, u26, u27, u28, u29, u30, u31, u32, u33, u34, u35])), (xa, .inl (E 0, 12, .inl (g_tv 0))), (pa, .inl (E 0, 29, .inl (pgF S))), (va, .inl (E 1, 5, .inr (.inr (.inl (fl5 S)))))] H locs := hw
  refine W.eq (congrArg (fun z => F0 m 9 ls (.int z :: [])) (show (b2i (outB (nI n) 0 3) : Int32) = 0 from (congrArg b2i (out_nf (n := n) (a := 0) (b := 3) (by omega) hn (by decide))))) ?_
  refine lv_if_eq (tgt := 14) hx hb dX6_wheel_9 (by decide) (fun c_9 => ?_) (fun c_9 => absurd c_9 (by decide))
  refine lv_iload_n hx hb dX6_wheel_14 rfl (lv_at hl 2 rfl) ?_
  by_cases y_0 : w = 0
  · skip
    refine lv_tableIn (off := 37) (tgt := 52) hx hb dX6_wheel_15 (by rw [y_0]; decide) (by rw [y_0]; decide) (by rw [y_0]; rfl) (by decide) ?_
    refine lv_aload_n hx hb dX6_wheel_52 rfl (lv_at hl 0 rfl) ?_
    refine g_get (TT := TX6) hc hw inX6_wheel_X6 0 12 2 rfl rfl (by decide) rfl rfl dX6_wheel_53 ?_
    refine lv_iload_n hx hb dX6_wheel_56 rfl (lv_at hl 1 rfl) ?_
    refine g_fld hc hw 3 n rfl rfl (by omega) (by decide) dX6_wheel_57 ?_
    refine W.eq (congrArg (fun z => F0 m 58 ls (.float z :: [])) (show ((fl5 S) n : UInt32) = sF S n from (fl5_lt _ (by omega)))) ?_
    refine g_cS (As := [.float (sF S n)]) (n := 1) (rest := []) (wc := []) (w1 := []) (bytes := cJxf58ca_floatToIntBits_5c35a) (maxL := 1) (ret := (some .int)) hc hw hl.1 (m_Jxf58ca_floatToIntBits_5c35a (l := l) (D := D) (E := E) (T := T) (sF S n) (g_mgW (hok.f n (by omega)) (by decide))) gX6_wheel_Jxf58ca_floatToIntBits_5c35a rfl (by decide +kernel) (by rw [hR]; exact ⟨Nat.le_of_ble_eq_true rfl, Nat.le_of_ble_eq_true rfl⟩) [] (by decide) rfl [] rfl rfl rfl rfl (Nat.le_of_ble_eq_true rfl) dX6_wheel_58 ⟨Nat.zero_le _, Nat.zero_le _⟩ (fun H locs hw => ?_)
    have hw : g_W D A s [(o, .inr (6, [.int 0, u1, u2, .ref xa, u4, u5, u6, u7, u8, u9, u10, .ref pa, .ref va, u13, u14, u15, u16, u17, u18, u19, u20, u21, u22, u23, u24, u25, u26, u27, u28, u29, u30, u31, u32, u33, u34, u35])), (xa, .inl (E 0, 12, .inl (g_tv 0))), (pa, .inl (E 0, 29, .inl (pgF S))), (va, .inl (E 1, 5, .inr (.inr (.inl (fl5 S)))))] H locs := hw
    exact g_iret hQ hc hw hr (by exact congrArg (fun z => some (Value.int z)) (by unfold whF; simp only [if_pos y_0])) rfl dX6_wheel_61
  by_cases y_1 : w = 1
  · skip
    refine lv_tableIn (off := 47) (tgt := 62) hx hb dX6_wheel_15 (by rw [y_1]; decide) (by rw [y_1]; decide) (by rw [y_1]; rfl) (by decide) ?_
    refine lv_aload_n hx hb dX6_wheel_62 rfl (lv_at hl 0 rfl) ?_
    refine g_get (TT := TX6) hc hw inX6_wheel_X6 0 12 2 rfl rfl (by decide) rfl rfl dX6_wheel_63 ?_
    refine lv_iload_n hx hb dX6_wheel_66 rfl (lv_at hl 1 rfl) ?_
    refine g_fld hc hw 3 n rfl rfl (by omega) (by decide) dX6_wheel_67 ?_
    refine W.eq (congrArg (fun z => F0 m 68 ls (.float z :: [])) (show ((fl5 S) n : UInt32) = sF S n from (fl5_lt _ (by omega)))) ?_
    refine g_cS (As := [.float (sF S n)]) (n := 1) (rest := []) (wc := []) (w1 := []) (bytes := cX6_thousandths) (maxL := 1) (ret := (some .int)) hc hw hl.1 (m_X6_thousandths (l := l) (D := D) (E := E) (T := T) (sF S n) (g_mgW (hok.f n (by omega)) (by decide))) gX6_wheel_X6_thousandths rfl (by decide +kernel) (by rw [hR]; exact ⟨Nat.le_of_ble_eq_true rfl, Nat.le_of_ble_eq_true rfl⟩) [] (by decide) rfl [] rfl rfl rfl rfl (Nat.le_of_ble_eq_true rfl) dX6_wheel_68 ⟨Nat.zero_le _, Nat.zero_le _⟩ (fun H locs hw => ?_)
    have hw : g_W D A s [(o, .inr (6, [.int 0, u1, u2, .ref xa, u4, u5, u6, u7, u8, u9, u10, .ref pa, .ref va, u13, u14, u15, u16, u17, u18, u19, u20, u21, u22, u23, u24, u25, u26, u27, u28, u29, u30, u31, u32, u33, u34, u35])), (xa, .inl (E 0, 12, .inl (g_tv 0))), (pa, .inl (E 0, 29, .inl (pgF S))), (va, .inl (E 1, 5, .inr (.inr (.inl (fl5 S)))))] H locs := hw
    exact g_iret hQ hc hw hr (by exact congrArg (fun z => some (Value.int z)) (by unfold whF; simp only [if_neg y_0, if_pos y_1])) rfl dX6_wheel_71
  by_cases y_2 : w = 2
  · skip
    refine lv_tableIn (off := 57) (tgt := 72) hx hb dX6_wheel_15 (by rw [y_2]; decide) (by rw [y_2]; decide) (by rw [y_2]; rfl) (by decide) ?_
    refine lv_aload_n hx hb dX6_wheel_72 rfl (lv_at hl 0 rfl) ?_
    refine g_get (TT := TX6) hc hw inX6_wheel_X6 0 11 3 rfl rfl (by decide) rfl rfl dX6_wheel_73 ?_
    refine lv_iconst (v := 0) hx hb dX6_wheel_76 (by decide) ?_
    refine g_ild hc hw 2 0 rfl rfl (by omega) (by decide) dX6_wheel_77 ?_
    refine W.eq (congrArg (fun z => F0 m 78 ls (.int z :: [])) (show ((pgF S) 0 : Int32) = nI (sD S) from rfl)) ?_
    refine lv_iload_n hx hb dX6_wheel_78 rfl (lv_at hl 1 rfl) ?_
    refine lv_ishr hx hb dX6_wheel_79 ?_
    refine lv_iconst (v := 1) hx hb dX6_wheel_80 (by decide) ?_
    refine lv_iand hx hb dX6_wheel_81 ?_
    exact g_iret hQ hc hw hr (by exact congrArg (fun z => some (Value.int z)) (by unfold whF; simp only [if_neg y_0, if_neg y_1, if_pos y_2]; exact (bit_i _ hok.d n (by omega)).symm)) rfl dX6_wheel_82
  by_cases y_3 : w = 3
  · skip
    refine lv_tableIn (off := 68) (tgt := 83) hx hb dX6_wheel_15 (by rw [y_3]; decide) (by rw [y_3]; decide) (by rw [y_3]; rfl) (by decide) ?_
    refine lv_aload_n hx hb dX6_wheel_83 rfl (lv_at hl 0 rfl) ?_
    refine g_get (TT := TX6) hc hw inX6_wheel_X6 0 3 4 rfl rfl (by decide) rfl rfl dX6_wheel_84 ?_
    refine lv_iconst (v := 3) hx hb dX6_wheel_87 (by decide) ?_
    refine lv_iload_n hx hb dX6_wheel_88 rfl (lv_at hl 1 rfl) ?_
    refine lv_imul hx hb dX6_wheel_89 ?_
    refine lv_iload_n hx hb dX6_wheel_90 rfl (lv_at hl 2 rfl) ?_
    refine lv_iadd hx hb dX6_wheel_91 ?_
    refine lv_iconst (v := 3) hx hb dX6_wheel_92 (by decide) ?_
    refine lv_isub hx hb dX6_wheel_93 ?_
    refine g_ild hc hw 1 (3 * n + 0) rfl (by rw [y_3]; exact n_sub (b := 3) (n_add (b := 3) (n_mul rfl rfl) rfl) rfl (by omega)) (by omega) (by decide) dX6_wheel_94 ?_
    exact g_iret hQ hc hw hr (by exact congrArg (fun z => some (Value.int z)) (by unfold whF; simp only [if_neg y_0, if_neg y_1, if_neg y_2, if_pos y_3]; rw [show 3 * n + 0 = n * 3 + 0 by omega])) rfl dX6_wheel_95
  by_cases y_4 : w = 4
  · skip
    refine lv_tableIn (off := 68) (tgt := 83) hx hb dX6_wheel_15 (by rw [y_4]; decide) (by rw [y_4]; decide) (by rw [y_4]; rfl) (by decide) ?_
    refine lv_aload_n hx hb dX6_wheel_83 rfl (lv_at hl 0 rfl) ?_
    refine g_get (TT := TX6) hc hw inX6_wheel_X6 0 3 4 rfl rfl (by decide) rfl rfl dX6_wheel_84 ?_
    refine lv_iconst (v := 3) hx hb dX6_wheel_87 (by decide) ?_
    refine lv_iload_n hx hb dX6_wheel_88 rfl (lv_at hl 1 rfl) ?_
    refine lv_imul hx hb dX6_wheel_89 ?_
    refine lv_iload_n hx hb dX6_wheel_90 rfl (lv_at hl 2 rfl) ?_
    refine lv_iadd hx hb dX6_wheel_91 ?_
    refine lv_iconst (v := 3) hx hb dX6_wheel_92 (by decide) ?_
    refine lv_isub hx hb dX6_wheel_93 ?_
    refine g_ild hc hw 1 (3 * n + 1) rfl (by rw [y_4]; exact n_sub (b := 3) (n_add (b := 4) (n_mul rfl rfl) rfl) rfl (by omega)) (by omega) (by decide) dX6_wheel_94 ?_
    exact g_iret hQ hc hw hr (by exact congrArg (fun z => some (Value.int z)) (by unfold whF; simp only [if_neg y_0, if_neg y_1, if_neg y_2, if_neg y_3, if_pos y_4]; rw [show 3 * n + 1 = n * 3 + 1 by omega])) rfl dX6_wheel_95
  by_cases y_5 : w = 5
  · skip
    refine lv_tableIn (off := 68) (tgt := 83) hx hb dX6_wheel_15 (by rw [y_5]; decide) (by rw [y_5]; decide) (by rw [y_5]; rfl) (by decide) ?_
    refine lv_aload_n hx hb dX6_wheel_83 rfl (lv_at hl 0 rfl) ?_
    refine g_get (TT := TX6) hc hw inX6_wheel_X6 0 3 4 rfl rfl (by decide) rfl rfl dX6_wheel_84 ?_
    refine lv_iconst (v := 3) hx hb dX6_wheel_87 (by decide) ?_
    refine lv_iload_n hx hb dX6_wheel_88 rfl (lv_at hl 1 rfl) ?_
    refine lv_imul hx hb dX6_wheel_89 ?_
    refine lv_iload_n hx hb dX6_wheel_90 rfl (lv_at hl 2 rfl) ?_
    refine lv_iadd hx hb dX6_wheel_91 ?_
    refine lv_iconst (v := 3) hx hb dX6_wheel_92 (by decide) ?_
    refine lv_isub hx hb dX6_wheel_93 ?_
    refine g_ild hc hw 1 (3 * n + 2) rfl (by rw [y_5]; exact n_sub (b := 3) (n_add (b := 5) (n_mul rfl rfl) rfl) rfl (by omega)) (by omega) (by decide) dX6_wheel_94 ?_
    exact g_iret hQ hc hw hr (by exact congrArg (fun z => some (Value.int z)) (by unfold whF; simp only [if_neg y_0, if_neg y_1, if_neg y_2, if_neg y_3, if_neg y_4, if_pos y_5]; rw [show 3 * n + 2 = n * 3 + 2 by omega])) rfl dX6_wheel_95
  have z_0 := lv_neT (a := 0) y_0 (by decide)
  have z_1 := lv_neT (a := 1) y_1 (by decide)
  have z_2 := lv_neT (a := 2) y_2 (by decide)
  have z_3 := lv_neT (a := 3) y_3 (by decide)
  have z_4 := lv_neT (a := 4) y_4 (by decide)
  have z_5 := lv_neT (a := 5) y_5 (by decide)
  refine lv_tableOut (tgt := 96) hx hb dX6_wheel_15 (by omega) (by decide) ?_
  refine lv_bipush (v := (-2)) hx hb dX6_wheel_96 (by decide) ?_
  exact g_iret hQ hc hw hr (by exact congrArg (fun z => some (Value.int z)) (by unfold whF; simp only [if_neg y_0, if_neg y_1, if_neg y_2, if_neg y_3, if_neg y_4, if_neg y_5])) rfl dX6_wheel_98

theorem dX6_told_0 : decode cX6_told 0 = .ok (.aload_n 0, 1) := by decide +kernel
theorem dX6_told_1 : decode cX6_told 1 = .ok (.iconst 0, 1) := by decide +kernel
theorem dX6_told_2 : decode cX6_told 2 = .ok (.putfield 88, 3) := by decide +kernel
theorem dX6_told_5 : decode cX6_told 5 = .ok (.iload_n 2, 1) := by decide +kernel
theorem dX6_told_6 : decode cX6_told 6 = .ok (.i2l, 1) := by decide +kernel
theorem dX6_told_7 : decode cX6_told 7 = .ok (.lconst 0, 1) := by decide +kernel
theorem dX6_told_8 : decode cX6_told 8 = .ok (.iload_n 1, 1) := by decide +kernel
theorem dX6_told_9 : decode cX6_told 9 = .ok (.ifCond .eq 10, 3) := by decide +kernel
theorem dX6_told_12 : decode cX6_told 12 = .ok (.aload_n 0, 1) := by decide +kernel
theorem dX6_told_13 : decode cX6_told 13 = .ok (.getfield 130, 3) := by decide +kernel
theorem dX6_told_16 : decode cX6_told 16 = .ok (.goto 7, 3) := by decide +kernel
theorem dX6_told_19 : decode cX6_told 19 = .ok (.aload_n 0, 1) := by decide +kernel
theorem dX6_told_20 : decode cX6_told 20 = .ok (.getfield 133, 3) := by decide +kernel
theorem dX6_told_23 : decode cX6_told 23 = .ok (.iconst 1, 1) := by decide +kernel
theorem dX6_told_24 : decode cX6_told 24 = .ok (.isub, 1) := by decide +kernel
theorem dX6_told_25 : decode cX6_told 25 = .ok (.i2l, 1) := by decide +kernel
theorem dX6_told_26 : decode cX6_told 26 = .ok (.invokestatic 94, 3) := by decide +kernel
theorem dX6_told_29 : decode cX6_told 29 = .ok (.ifCond .ne 5, 3) := by decide +kernel
theorem dX6_told_32 : decode cX6_told 32 = .ok (.iconst (-1), 1) := by decide +kernel
theorem dX6_told_33 : decode cX6_told 33 = .ok (.ireturn, 1) := by decide +kernel
set_option maxRecDepth 20000 in
theorem ggX6_told_X6_in : GoodIn wsX6_told wsX6_in := goodIn_r _ [10] rfl (by decide +kernel)
set_option maxRecDepth 20000 in
theorem gX6_told_X6_in : GoodIn wsX6_told (va_wsS RX6 94 yX6_in wsX6_in) := goodIn_app (goodIn_of _ (by decide +kernel)) ggX6_told_X6_in
theorem inX6_told_X6 : ∀ w ∈ u_ws RX6 TX6 36, w ∈ wsX6_told := fun w h => List.mem_cons_of_mem _ (List.mem_append_right _ h)
set_option maxRecDepth 100000 in
set_option maxHeartbeats 4000000 in
theorem m_X6_told_row {l : Launch} {D : va_G} {E : Nat → ClassId} {T : Nat → Nat} (o : Nat) (pa : Nat) (fa : Nat) (nw : Nat) (nf : Nat) (u0 : Value) (u1 : Value) (u2 : Value) (u3 : Value) (u7 : Value) (u8 : Value) (u9 : Value) (u10 : Value) (u12 : Value) (u13 : Value) (u14 : Value) (u15 : Value) (u16 : Value) (u17 : Value) (u18 : Value) (u19 : Value) (u20 : Value) (u21 : Value) (u22 : Value) (u23 : Value) (u24 : Value) (u25 : Value) (u26 : Value) (u27 : Value) (u28 : Value) (u29 : Value) (u30 : Value) (u31 : Value) (u32 : Value) (u33 : Value) (u34 : Value) (u35 : Value) (S : TS) (fl : Nat → Int32) (ww : Bool) (v : Int32) (k : Int32) (hnw : nw ≤ 6) (hnf : nf ≤ 6) (hr9 : 0 ≤ v → (ww = true → ¬ v < nI nw) ∧ (ww = false → ¬ v < nI nf)) : g_M l D E T yX6_told wsX6_told 1 25 [.ref o, .int (b2i ww), .int v, .int k] [(o, .inr (6, [u0, u1, u2, u3, .int (nI nw), .int (nI nf), .ref fa, u7, u8, u9, u10, .ref pa, u12, u13, u14, u15, u16, u17, u18, u19, u20, u21, u22, u23, u24, u25, u26, u27, u28, u29, u30, u31, u32, u33, u34, u35])), (fa, .inl (E 0, 18, .inl fl)), (pa, .inl (E 0, 29, .inl (pgF S)))] [(o, .inr (6, [.int 0, u1, u2, u3, .int (nI nw), .int (nI nf), .ref fa, u7, u8, u9, u10, .ref pa, u12, u13, u14, u15, u16, u17, u18, u19, u20, u21, u22, u23, u24, u25, u26, u27, u28, u29, u30, u31, u32, u33, u34, u35])), (fa, .inl (E 0, 18, .inl fl)), (pa, .inl (E 0, 29, .inl (pgF S)))] (some (.int (-1))) := by
  refine g_M.of (cc := cX6_told) (nL := 4) (ret := (some .int)) (own := RX6) (lv := [(0, .ref o), (1, .int (b2i ww)), (2, .int v), (3, .int k)]) (by decide) rfl rfl (Nat.le_of_ble_eq_true rfl) rfl ?_
  intro p e R s m args below meth c A Q H locs ls hR hQ hc hr hw hl
  have hx := hc.1
  have hb := hc.2.1
  have hts := hc.2.2.2.1
  have hown := hc.2.2.2.2.1
  refine lv_aload_n hx hb dX6_told_0 rfl (lv_at hl 0 rfl) ?_
  refine lv_iconst (v := 0) hx hb dX6_told_1 (by decide) ?_
  refine g_put (TT := TX6) hc hw inX6_told_X6 tyX6 tyX6_ok nmX6 0 0 1 rfl rfl (by decide) rfl rfl rfl rfl (Nat.le_of_ble_eq_true rfl) dX6_told_2 (fun H locs hw => ?_)
  have hw : g_W D A s [(o, .inr (6, [.int 0, u1, u2, u3, .int (nI nw), .int (nI nf), .ref fa, u7, u8, u9, u10, .ref pa, u12, u13, u14, u15, u16, u17, u18, u19, u20, u21, u22, u23, u24, u25, u26, u27, u28, u29, u30, u31, u32, u33, u34, u35])), (fa, .inl (E 0, 18, .inl fl)), (pa, .inl (E 0, 29, .inl (pgF S)))] H locs := hw
  refine lv_iload_n hx hb dX6_told_5 rfl (lv_at hl 2 rfl) ?_
  refine lv_i2l hx hb dX6_told_6 rfl ?_
  refine lv_lconst (v := 0) hx hb dX6_told_7 (by decide) ?_
  refine lv_iload_n hx hb dX6_told_8 rfl (lv_at hl 1 rfl) ?_
  refine lv_if_eq (tgt := 19) hx hb dX6_told_9 (by decide) (fun c_9 => ?_) (fun c_9 => ?_)
  · skip
    have k_9 := b2i_eq c_9
    refine lv_aload_n hx hb dX6_told_19 rfl (lv_at hl 0 rfl) ?_
    refine g_get (TT := TX6) hc hw inX6_told_X6 0 5 3 rfl rfl (by decide) rfl rfl dX6_told_20 ?_
    refine lv_iconst (v := 1) hx hb dX6_told_23 (by decide) ?_
    refine lv_isub hx hb dX6_told_24 ?_
    refine lv_i2l hx hb dX6_told_25 rfl ?_
    refine g_cS (As := [.long v.toInt64, .long 0, .long (((nI nf) - 1).toInt64)]) (n := 3) (rest := []) (wc := []) (w1 := []) (bytes := cX6_in) (maxL := 6) (ret := (some .boolean)) hc hw hl.1 (m_X6_in (l := l) (D := D) (E := E) (T := T) v.toInt64 0 (((nI nf) - 1).toInt64)) gX6_told_X6_in rfl (by decide +kernel) (by rw [hR]; exact ⟨Nat.le_of_ble_eq_true rfl, Nat.le_of_ble_eq_true rfl⟩) [] (by decide) rfl [] rfl rfl rfl rfl (Nat.le_of_ble_eq_true rfl) dX6_told_26 ⟨Nat.zero_le _, Nat.zero_le _⟩ (fun H locs hw => ?_)
    have hw : g_W D A s [(o, .inr (6, [.int 0, u1, u2, u3, .int (nI nw), .int (nI nf), .ref fa, u7, u8, u9, u10, .ref pa, u12, u13, u14, u15, u16, u17, u18, u19, u20, u21, u22, u23, u24, u25, u26, u27, u28, u29, u30, u31, u32, u33, u34, u35])), (fa, .inl (E 0, 18, .inl fl)), (pa, .inl (E 0, 29, .inl (pgF S)))] H locs := hw
    refine W.eq (congrArg (fun z => F0 m 29 ls (.int z :: [])) (show (b2i (inL v.toInt64 0 (((nI nf) - 1).toInt64)) : Int32) = 0 from (congrArg b2i (in_rN hnf (fun q => (hr9 q).2 (b2i_eq c_9)))))) ?_
    refine lv_if_ne (tgt := 34) hx hb dX6_told_29 (by decide) (fun c_29 => absurd c_29 (by decide)) (fun c_29 => ?_)
    refine lv_iconst (v := (-1)) hx hb dX6_told_32 (by decide) ?_
    exact g_iret hQ hc hw hr rfl rfl dX6_told_33
  · skip
    have k_9 := b2i_ne c_9
    refine lv_aload_n hx hb dX6_told_12 rfl (lv_at hl 0 rfl) ?_
    refine g_get (TT := TX6) hc hw inX6_told_X6 0 4 2 rfl rfl (by decide) rfl rfl dX6_told_13 ?_
    refine lv_goto (tgt := 23) hx hb dX6_told_16 (by decide) ?_
    refine lv_iconst (v := 1) hx hb dX6_told_23 (by decide) ?_
    refine lv_isub hx hb dX6_told_24 ?_
    refine lv_i2l hx hb dX6_told_25 rfl ?_
    refine g_cS (As := [.long v.toInt64, .long 0, .long (((nI nw) - 1).toInt64)]) (n := 3) (rest := []) (wc := []) (w1 := []) (bytes := cX6_in) (maxL := 6) (ret := (some .boolean)) hc hw hl.1 (m_X6_in (l := l) (D := D) (E := E) (T := T) v.toInt64 0 (((nI nw) - 1).toInt64)) gX6_told_X6_in rfl (by decide +kernel) (by rw [hR]; exact ⟨Nat.le_of_ble_eq_true rfl, Nat.le_of_ble_eq_true rfl⟩) [] (by decide) rfl [] rfl rfl rfl rfl (Nat.le_of_ble_eq_true rfl) dX6_told_26 ⟨Nat.zero_le _, Nat.zero_le _⟩ (fun H locs hw => ?_)
    have hw : g_W D A s [(o, .inr (6, [.int 0, u1, u2, u3, .int (nI nw), .int (nI nf), .ref fa, u7, u8, u9, u10, .ref pa, u12, u13, u14, u15, u16, u17, u18, u19, u20, u21, u22, u23, u24, u25, u26, u27, u28, u29, u30, u31, u32, u33, u34, u35])), (fa, .inl (E 0, 18, .inl fl)), (pa, .inl (E 0, 29, .inl (pgF S)))] H locs := hw
    refine W.eq (congrArg (fun z => F0 m 29 ls (.int z :: [])) (show (b2i (inL v.toInt64 0 (((nI nw) - 1).toInt64)) : Int32) = 0 from (congrArg b2i (in_rN hnw (fun q => (hr9 q).1 (b2i_ne c_9)))))) ?_
    refine lv_if_ne (tgt := 34) hx hb dX6_told_29 (by decide) (fun c_29 => absurd c_29 (by decide)) (fun c_29 => ?_)
    refine lv_iconst (v := (-1)) hx hb dX6_told_32 (by decide) ?_
    exact g_iret hQ hc hw hr rfl rfl dX6_told_33

theorem dX6_told_34 : decode cX6_told 34 = .ok (.iload_n 3, 1) := by decide +kernel
theorem dX6_told_35 : decode cX6_told 35 = .ok (.i2l, 1) := by decide +kernel
theorem dX6_told_36 : decode cX6_told 36 = .ok (.lconst 0, 1) := by decide +kernel
theorem dX6_told_37 : decode cX6_told 37 = .ok (.ldc2_w 225, 3) := by decide +kernel
theorem dX6_told_40 : decode cX6_told 40 = .ok (.invokestatic 94, 3) := by decide +kernel
theorem dX6_told_43 : decode cX6_told 43 = .ok (.ifCond .ne 6, 3) := by decide +kernel
theorem dX6_told_46 : decode cX6_told 46 = .ok (.bipush (-2), 2) := by decide +kernel
theorem dX6_told_48 : decode cX6_told 48 = .ok (.ireturn, 1) := by decide +kernel
set_option maxRecDepth 100000 in
set_option maxHeartbeats 4000000 in
theorem m_X6_told_out {l : Launch} {D : va_G} {E : Nat → ClassId} {T : Nat → Nat} (o : Nat) (pa : Nat) (fa : Nat) (nw : Nat) (nf : Nat) (u0 : Value) (u1 : Value) (u2 : Value) (u3 : Value) (u7 : Value) (u8 : Value) (u9 : Value) (u10 : Value) (u12 : Value) (u13 : Value) (u14 : Value) (u15 : Value) (u16 : Value) (u17 : Value) (u18 : Value) (u19 : Value) (u20 : Value) (u21 : Value) (u22 : Value) (u23 : Value) (u24 : Value) (u25 : Value) (u26 : Value) (u27 : Value) (u28 : Value) (u29 : Value) (u30 : Value) (u31 : Value) (u32 : Value) (u33 : Value) (u34 : Value) (u35 : Value) (S : TS) (fl : Nat → Int32) (ww : Bool) (r9 : Nat) (k : Int32) (hw1 : ww = true → r9 < nw) (hf1 : ww = false → r9 < nf) (hnw : nw ≤ 6) (hnf : nf ≤ 6) (ho : outB k 0 2 = true) : g_M l D E T yX6_told wsX6_told 1 25 [.ref o, .int (b2i ww), .int (nI r9), .int k] [(o, .inr (6, [u0, u1, u2, u3, .int (nI nw), .int (nI nf), .ref fa, u7, u8, u9, u10, .ref pa, u12, u13, u14, u15, u16, u17, u18, u19, u20, u21, u22, u23, u24, u25, u26, u27, u28, u29, u30, u31, u32, u33, u34, u35])), (fa, .inl (E 0, 18, .inl fl)), (pa, .inl (E 0, 29, .inl (pgF S)))] [(o, .inr (6, [.int 0, u1, u2, u3, .int (nI nw), .int (nI nf), .ref fa, u7, u8, u9, u10, .ref pa, u12, u13, u14, u15, u16, u17, u18, u19, u20, u21, u22, u23, u24, u25, u26, u27, u28, u29, u30, u31, u32, u33, u34, u35])), (fa, .inl (E 0, 18, .inl fl)), (pa, .inl (E 0, 29, .inl (pgF S)))] (some (.int (-2))) := by
  have hr6 : r9 < 6 := (by cases ww with | false => (have := hf1 rfl; omega) | true => (have := hw1 rfl; omega))
  refine g_M.of (cc := cX6_told) (nL := 4) (ret := (some .int)) (own := RX6) (lv := [(0, .ref o), (1, .int (b2i ww)), (2, .int (nI r9)), (3, .int k)]) (by decide) rfl rfl (Nat.le_of_ble_eq_true rfl) rfl ?_
  intro p e R s m args below meth c A Q H locs ls hR hQ hc hr hw hl
  have hx := hc.1
  have hb := hc.2.1
  have hts := hc.2.2.2.1
  have hown := hc.2.2.2.2.1
  refine lv_aload_n hx hb dX6_told_0 rfl (lv_at hl 0 rfl) ?_
  refine lv_iconst (v := 0) hx hb dX6_told_1 (by decide) ?_
  refine g_put (TT := TX6) hc hw inX6_told_X6 tyX6 tyX6_ok nmX6 0 0 1 rfl rfl (by decide) rfl rfl rfl rfl (Nat.le_of_ble_eq_true rfl) dX6_told_2 (fun H locs hw => ?_)
  have hw : g_W D A s [(o, .inr (6, [.int 0, u1, u2, u3, .int (nI nw), .int (nI nf), .ref fa, u7, u8, u9, u10, .ref pa, u12, u13, u14, u15, u16, u17, u18, u19, u20, u21, u22, u23, u24, u25, u26, u27, u28, u29, u30, u31, u32, u33, u34, u35])), (fa, .inl (E 0, 18, .inl fl)), (pa, .inl (E 0, 29, .inl (pgF S)))] H locs := hw
  refine lv_iload_n hx hb dX6_told_5 rfl (lv_at hl 2 rfl) ?_
  refine lv_i2l hx hb dX6_told_6 rfl ?_
  refine lv_lconst (v := 0) hx hb dX6_told_7 (by decide) ?_
  refine lv_iload_n hx hb dX6_told_8 rfl (lv_at hl 1 rfl) ?_
  refine lv_if_eq (tgt := 19) hx hb dX6_told_9 (by decide) (fun c_9 => ?_) (fun c_9 => ?_)
  · skip
    have k_9 := b2i_eq c_9
    refine lv_aload_n hx hb dX6_told_19 rfl (lv_at hl 0 rfl) ?_
    refine g_get (TT := TX6) hc hw inX6_told_X6 0 5 3 rfl rfl (by decide) rfl rfl dX6_told_20 ?_
    refine lv_iconst (v := 1) hx hb dX6_told_23 (by decide) ?_
    refine lv_isub hx hb dX6_told_24 ?_
    refine lv_i2l hx hb dX6_told_25 rfl ?_
    refine g_cS (As := [.long ((nI r9).toInt64), .long 0, .long (((nI nf) - 1).toInt64)]) (n := 3) (rest := []) (wc := []) (w1 := []) (bytes := cX6_in) (maxL := 6) (ret := (some .boolean)) hc hw hl.1 (m_X6_in (l := l) (D := D) (E := E) (T := T) ((nI r9).toInt64) 0 (((nI nf) - 1).toInt64)) gX6_told_X6_in rfl (by decide +kernel) (by rw [hR]; exact ⟨Nat.le_of_ble_eq_true rfl, Nat.le_of_ble_eq_true rfl⟩) [] (by decide) rfl [] rfl rfl rfl rfl (Nat.le_of_ble_eq_true rfl) dX6_told_26 ⟨Nat.zero_le _, Nat.zero_le _⟩ (fun H locs hw => ?_)
    have hw : g_W D A s [(o, .inr (6, [.int 0, u1, u2, u3, .int (nI nw), .int (nI nf), .ref fa, u7, u8, u9, u10, .ref pa, u12, u13, u14, u15, u16, u17, u18, u19, u20, u21, u22, u23, u24, u25, u26, u27, u28, u29, u30, u31, u32, u33, u34, u35])), (fa, .inl (E 0, 18, .inl fl)), (pa, .inl (E 0, 29, .inl (pgF S)))] H locs := hw
    refine W.eq (congrArg (fun z => F0 m 29 ls (.int z :: [])) (show (b2i (inL ((nI r9).toInt64) 0 (((nI nf) - 1).toInt64)) : Int32) = 1 from (congrArg b2i (in_rT hnf (hf1 k_9))))) ?_
    refine lv_if_ne (tgt := 34) hx hb dX6_told_29 (by decide) (fun c_29 => ?_) (fun c_29 => absurd c_29 (by decide))
    refine lv_iload_n hx hb dX6_told_34 rfl (lv_at hl 3 rfl) ?_
    refine lv_i2l hx hb dX6_told_35 rfl ?_
    refine lv_lconst (v := 0) hx hb dX6_told_36 (by decide) ?_
    refine lv_ldc2 (v := 2) hx hb hown (hts _ (List.mem_of_getElem? (i := 4) rfl)) dX6_told_37 ?_
    refine g_cS (As := [.long k.toInt64, .long 0, .long 2]) (n := 3) (rest := []) (wc := []) (w1 := []) (bytes := cX6_in) (maxL := 6) (ret := (some .boolean)) hc hw hl.1 (m_X6_in (l := l) (D := D) (E := E) (T := T) k.toInt64 0 2) gX6_told_X6_in rfl (by decide +kernel) (by rw [hR]; exact ⟨Nat.le_of_ble_eq_true rfl, Nat.le_of_ble_eq_true rfl⟩) [] (by decide) rfl [] rfl rfl rfl rfl (Nat.le_of_ble_eq_true rfl) dX6_told_40 ⟨Nat.zero_le _, Nat.zero_le _⟩ (fun H locs hw => ?_)
    have hw : g_W D A s [(o, .inr (6, [.int 0, u1, u2, u3, .int (nI nw), .int (nI nf), .ref fa, u7, u8, u9, u10, .ref pa, u12, u13, u14, u15, u16, u17, u18, u19, u20, u21, u22, u23, u24, u25, u26, u27, u28, u29, u30, u31, u32, u33, u34, u35])), (fa, .inl (E 0, 18, .inl fl)), (pa, .inl (E 0, 29, .inl (pgF S)))] H locs := hw
    refine W.eq (congrArg (fun z => F0 m 43 ls (.int z :: [])) (show (b2i (inL k.toInt64 0 2) : Int32) = 0 from (congrArg b2i (in_o (a := 0) (b := 2) ho (by decide) (by decide))))) ?_
    refine lv_if_ne (tgt := 49) hx hb dX6_told_43 (by decide) (fun c_43 => absurd c_43 (by decide)) (fun c_43 => ?_)
    refine lv_bipush (v := (-2)) hx hb dX6_told_46 (by decide) ?_
    exact g_iret hQ hc hw hr rfl rfl dX6_told_48
  · skip
    have k_9 := b2i_ne c_9
    refine lv_aload_n hx hb dX6_told_12 rfl (lv_at hl 0 rfl) ?_
    refine g_get (TT := TX6) hc hw inX6_told_X6 0 4 2 rfl rfl (by decide) rfl rfl dX6_told_13 ?_
    refine lv_goto (tgt := 23) hx hb dX6_told_16 (by decide) ?_
    refine lv_iconst (v := 1) hx hb dX6_told_23 (by decide) ?_
    refine lv_isub hx hb dX6_told_24 ?_
    refine lv_i2l hx hb dX6_told_25 rfl ?_
    refine g_cS (As := [.long ((nI r9).toInt64), .long 0, .long (((nI nw) - 1).toInt64)]) (n := 3) (rest := []) (wc := []) (w1 := []) (bytes := cX6_in) (maxL := 6) (ret := (some .boolean)) hc hw hl.1 (m_X6_in (l := l) (D := D) (E := E) (T := T) ((nI r9).toInt64) 0 (((nI nw) - 1).toInt64)) gX6_told_X6_in rfl (by decide +kernel) (by rw [hR]; exact ⟨Nat.le_of_ble_eq_true rfl, Nat.le_of_ble_eq_true rfl⟩) [] (by decide) rfl [] rfl rfl rfl rfl (Nat.le_of_ble_eq_true rfl) dX6_told_26 ⟨Nat.zero_le _, Nat.zero_le _⟩ (fun H locs hw => ?_)
    have hw : g_W D A s [(o, .inr (6, [.int 0, u1, u2, u3, .int (nI nw), .int (nI nf), .ref fa, u7, u8, u9, u10, .ref pa, u12, u13, u14, u15, u16, u17, u18, u19, u20, u21, u22, u23, u24, u25, u26, u27, u28, u29, u30, u31, u32, u33, u34, u35])), (fa, .inl (E 0, 18, .inl fl)), (pa, .inl (E 0, 29, .inl (pgF S)))] H locs := hw
    refine W.eq (congrArg (fun z => F0 m 29 ls (.int z :: [])) (show (b2i (inL ((nI r9).toInt64) 0 (((nI nw) - 1).toInt64)) : Int32) = 1 from (congrArg b2i (in_rT hnw (hw1 k_9))))) ?_
    refine lv_if_ne (tgt := 34) hx hb dX6_told_29 (by decide) (fun c_29 => ?_) (fun c_29 => absurd c_29 (by decide))
    refine lv_iload_n hx hb dX6_told_34 rfl (lv_at hl 3 rfl) ?_
    refine lv_i2l hx hb dX6_told_35 rfl ?_
    refine lv_lconst (v := 0) hx hb dX6_told_36 (by decide) ?_
    refine lv_ldc2 (v := 2) hx hb hown (hts _ (List.mem_of_getElem? (i := 4) rfl)) dX6_told_37 ?_
    refine g_cS (As := [.long k.toInt64, .long 0, .long 2]) (n := 3) (rest := []) (wc := []) (w1 := []) (bytes := cX6_in) (maxL := 6) (ret := (some .boolean)) hc hw hl.1 (m_X6_in (l := l) (D := D) (E := E) (T := T) k.toInt64 0 2) gX6_told_X6_in rfl (by decide +kernel) (by rw [hR]; exact ⟨Nat.le_of_ble_eq_true rfl, Nat.le_of_ble_eq_true rfl⟩) [] (by decide) rfl [] rfl rfl rfl rfl (Nat.le_of_ble_eq_true rfl) dX6_told_40 ⟨Nat.zero_le _, Nat.zero_le _⟩ (fun H locs hw => ?_)
    have hw : g_W D A s [(o, .inr (6, [.int 0, u1, u2, u3, .int (nI nw), .int (nI nf), .ref fa, u7, u8, u9, u10, .ref pa, u12, u13, u14, u15, u16, u17, u18, u19, u20, u21, u22, u23, u24, u25, u26, u27, u28, u29, u30, u31, u32, u33, u34, u35])), (fa, .inl (E 0, 18, .inl fl)), (pa, .inl (E 0, 29, .inl (pgF S)))] H locs := hw
    refine W.eq (congrArg (fun z => F0 m 43 ls (.int z :: [])) (show (b2i (inL k.toInt64 0 2) : Int32) = 0 from (congrArg b2i (in_o (a := 0) (b := 2) ho (by decide) (by decide))))) ?_
    refine lv_if_ne (tgt := 49) hx hb dX6_told_43 (by decide) (fun c_43 => absurd c_43 (by decide)) (fun c_43 => ?_)
    refine lv_bipush (v := (-2)) hx hb dX6_told_46 (by decide) ?_
    exact g_iret hQ hc hw hr rfl rfl dX6_told_48

theorem dX6_told_49 : decode cX6_told 49 = .ok (.iload_n 1, 1) := by decide +kernel
theorem dX6_told_50 : decode cX6_told 50 = .ok (.ifCond .eq 19, 3) := by decide +kernel
theorem dX6_told_53 : decode cX6_told 53 = .ok (.aload_n 0, 1) := by decide +kernel
theorem dX6_told_54 : decode cX6_told 54 = .ok (.getfield 25, 3) := by decide +kernel
theorem dX6_told_57 : decode cX6_told 57 = .ok (.bipush 11, 2) := by decide +kernel
theorem dX6_told_59 : decode cX6_told 59 = .ok (.iconst 3, 1) := by decide +kernel
theorem dX6_told_60 : decode cX6_told 60 = .ok (.iload_n 2, 1) := by decide +kernel
theorem dX6_told_61 : decode cX6_told 61 = .ok (.imul, 1) := by decide +kernel
theorem dX6_told_62 : decode cX6_told 62 = .ok (.iadd, 1) := by decide +kernel
theorem dX6_told_63 : decode cX6_told 63 = .ok (.iload_n 3, 1) := by decide +kernel
theorem dX6_told_64 : decode cX6_told 64 = .ok (.iadd, 1) := by decide +kernel
theorem dX6_told_65 : decode cX6_told 65 = .ok (.iaload, 1) := by decide +kernel
theorem dX6_told_66 : decode cX6_told 66 = .ok (.goto 13, 3) := by decide +kernel
theorem dX6_told_69 : decode cX6_told 69 = .ok (.aload_n 0, 1) := by decide +kernel
theorem dX6_told_70 : decode cX6_told 70 = .ok (.getfield 16, 3) := by decide +kernel
theorem dX6_told_73 : decode cX6_told 73 = .ok (.iconst 3, 1) := by decide +kernel
theorem dX6_told_74 : decode cX6_told 74 = .ok (.iload_n 2, 1) := by decide +kernel
theorem dX6_told_75 : decode cX6_told 75 = .ok (.imul, 1) := by decide +kernel
theorem dX6_told_76 : decode cX6_told 76 = .ok (.iload_n 3, 1) := by decide +kernel
theorem dX6_told_77 : decode cX6_told 77 = .ok (.iadd, 1) := by decide +kernel
theorem dX6_told_78 : decode cX6_told 78 = .ok (.iaload, 1) := by decide +kernel
theorem dX6_told_79 : decode cX6_told 79 = .ok (.ireturn, 1) := by decide +kernel
set_option maxRecDepth 100000 in
set_option maxHeartbeats 4000000 in
theorem m_X6_told {l : Launch} {D : va_G} {E : Nat → ClassId} {T : Nat → Nat} (o : Nat) (pa : Nat) (fa : Nat) (nw : Nat) (nf : Nat) (u0 : Value) (u1 : Value) (u2 : Value) (u3 : Value) (u7 : Value) (u8 : Value) (u9 : Value) (u10 : Value) (u12 : Value) (u13 : Value) (u14 : Value) (u15 : Value) (u16 : Value) (u17 : Value) (u18 : Value) (u19 : Value) (u20 : Value) (u21 : Value) (u22 : Value) (u23 : Value) (u24 : Value) (u25 : Value) (u26 : Value) (u27 : Value) (u28 : Value) (u29 : Value) (u30 : Value) (u31 : Value) (u32 : Value) (u33 : Value) (u34 : Value) (u35 : Value) (S : TS) (fl : Nat → Int32) (ww : Bool) (r9 : Nat) (k : Nat) (hw1 : ww = true → r9 < nw) (hf1 : ww = false → r9 < nf) (hnw : nw ≤ 6) (hnf : nf ≤ 6) (hk : k ≤ 2) : g_M l D E T yX6_told wsX6_told 1 25 [.ref o, .int (b2i ww), .int (nI r9), .int (nI k)] [(o, .inr (6, [u0, u1, u2, u3, .int (nI nw), .int (nI nf), .ref fa, u7, u8, u9, u10, .ref pa, u12, u13, u14, u15, u16, u17, u18, u19, u20, u21, u22, u23, u24, u25, u26, u27, u28, u29, u30, u31, u32, u33, u34, u35])), (fa, .inl (E 0, 18, .inl fl)), (pa, .inl (E 0, 29, .inl (pgF S)))] [(o, .inr (6, [.int 0, u1, u2, u3, .int (nI nw), .int (nI nf), .ref fa, u7, u8, u9, u10, .ref pa, u12, u13, u14, u15, u16, u17, u18, u19, u20, u21, u22, u23, u24, u25, u26, u27, u28, u29, u30, u31, u32, u33, u34, u35])), (fa, .inl (E 0, 18, .inl fl)), (pa, .inl (E 0, 29, .inl (pgF S)))] (some (.int (if ww = true then sW S (r9 * 3 + k) else fl (r9 * 3 + k)))) := by
  have hr6 : r9 < 6 := (by cases ww with | false => (have := hf1 rfl; omega) | true => (have := hw1 rfl; omega))
  refine g_M.of (cc := cX6_told) (nL := 4) (ret := (some .int)) (own := RX6) (lv := [(0, .ref o), (1, .int (b2i ww)), (2, .int (nI r9)), (3, .int (nI k))]) (by decide) rfl rfl (Nat.le_of_ble_eq_true rfl) rfl ?_
  intro p e R s m args below meth c A Q H locs ls hR hQ hc hr hw hl
  have hx := hc.1
  have hb := hc.2.1
  have hts := hc.2.2.2.1
  have hown := hc.2.2.2.2.1
  refine lv_aload_n hx hb dX6_told_0 rfl (lv_at hl 0 rfl) ?_
  refine lv_iconst (v := 0) hx hb dX6_told_1 (by decide) ?_
  refine g_put (TT := TX6) hc hw inX6_told_X6 tyX6 tyX6_ok nmX6 0 0 1 rfl rfl (by decide) rfl rfl rfl rfl (Nat.le_of_ble_eq_true rfl) dX6_told_2 (fun H locs hw => ?_)
  have hw : g_W D A s [(o, .inr (6, [.int 0, u1, u2, u3, .int (nI nw), .int (nI nf), .ref fa, u7, u8, u9, u10, .ref pa, u12, u13, u14, u15, u16, u17, u18, u19, u20, u21, u22, u23, u24, u25, u26, u27, u28, u29, u30, u31, u32, u33, u34, u35])), (fa, .inl (E 0, 18, .inl fl)), (pa, .inl (E 0, 29, .inl (pgF S)))] H locs := hw
  refine lv_iload_n hx hb dX6_told_5 rfl (lv_at hl 2 rfl) ?_
  refine lv_i2l hx hb dX6_told_6 rfl ?_
  refine lv_lconst (v := 0) hx hb dX6_told_7 (by decide) ?_
  refine lv_iload_n hx hb dX6_told_8 rfl (lv_at hl 1 rfl) ?_
  refine lv_if_eq (tgt := 19) hx hb dX6_told_9 (by decide) (fun c_9 => ?_) (fun c_9 => ?_)
  · skip
    have k_9 := b2i_eq c_9
    refine lv_aload_n hx hb dX6_told_19 rfl (lv_at hl 0 rfl) ?_
    refine g_get (TT := TX6) hc hw inX6_told_X6 0 5 3 rfl rfl (by decide) rfl rfl dX6_told_20 ?_
    refine lv_iconst (v := 1) hx hb dX6_told_23 (by decide) ?_
    refine lv_isub hx hb dX6_told_24 ?_
    refine lv_i2l hx hb dX6_told_25 rfl ?_
    refine g_cS (As := [.long ((nI r9).toInt64), .long 0, .long (((nI nf) - 1).toInt64)]) (n := 3) (rest := []) (wc := []) (w1 := []) (bytes := cX6_in) (maxL := 6) (ret := (some .boolean)) hc hw hl.1 (m_X6_in (l := l) (D := D) (E := E) (T := T) ((nI r9).toInt64) 0 (((nI nf) - 1).toInt64)) gX6_told_X6_in rfl (by decide +kernel) (by rw [hR]; exact ⟨Nat.le_of_ble_eq_true rfl, Nat.le_of_ble_eq_true rfl⟩) [] (by decide) rfl [] rfl rfl rfl rfl (Nat.le_of_ble_eq_true rfl) dX6_told_26 ⟨Nat.zero_le _, Nat.zero_le _⟩ (fun H locs hw => ?_)
    have hw : g_W D A s [(o, .inr (6, [.int 0, u1, u2, u3, .int (nI nw), .int (nI nf), .ref fa, u7, u8, u9, u10, .ref pa, u12, u13, u14, u15, u16, u17, u18, u19, u20, u21, u22, u23, u24, u25, u26, u27, u28, u29, u30, u31, u32, u33, u34, u35])), (fa, .inl (E 0, 18, .inl fl)), (pa, .inl (E 0, 29, .inl (pgF S)))] H locs := hw
    refine W.eq (congrArg (fun z => F0 m 29 ls (.int z :: [])) (show (b2i (inL ((nI r9).toInt64) 0 (((nI nf) - 1).toInt64)) : Int32) = 1 from (congrArg b2i (in_rT hnf (hf1 k_9))))) ?_
    refine lv_if_ne (tgt := 34) hx hb dX6_told_29 (by decide) (fun c_29 => ?_) (fun c_29 => absurd c_29 (by decide))
    refine lv_iload_n hx hb dX6_told_34 rfl (lv_at hl 3 rfl) ?_
    refine lv_i2l hx hb dX6_told_35 rfl ?_
    refine lv_lconst (v := 0) hx hb dX6_told_36 (by decide) ?_
    refine lv_ldc2 (v := 2) hx hb hown (hts _ (List.mem_of_getElem? (i := 4) rfl)) dX6_told_37 ?_
    refine g_cS (As := [.long ((nI k).toInt64), .long 0, .long 2]) (n := 3) (rest := []) (wc := []) (w1 := []) (bytes := cX6_in) (maxL := 6) (ret := (some .boolean)) hc hw hl.1 (m_X6_in (l := l) (D := D) (E := E) (T := T) ((nI k).toInt64) 0 2) gX6_told_X6_in rfl (by decide +kernel) (by rw [hR]; exact ⟨Nat.le_of_ble_eq_true rfl, Nat.le_of_ble_eq_true rfl⟩) [] (by decide) rfl [] rfl rfl rfl rfl (Nat.le_of_ble_eq_true rfl) dX6_told_40 ⟨Nat.zero_le _, Nat.zero_le _⟩ (fun H locs hw => ?_)
    have hw : g_W D A s [(o, .inr (6, [.int 0, u1, u2, u3, .int (nI nw), .int (nI nf), .ref fa, u7, u8, u9, u10, .ref pa, u12, u13, u14, u15, u16, u17, u18, u19, u20, u21, u22, u23, u24, u25, u26, u27, u28, u29, u30, u31, u32, u33, u34, u35])), (fa, .inl (E 0, 18, .inl fl)), (pa, .inl (E 0, 29, .inl (pgF S)))] H locs := hw
    refine W.eq (congrArg (fun z => F0 m 43 ls (.int z :: [])) (show (b2i (inL ((nI k).toInt64) 0 2) : Int32) = 1 from (congrArg b2i (in_i (out_nf (n := k) (a := 0) (b := 2) (by omega) hk (by decide)) (by decide) (by decide))))) ?_
    refine lv_if_ne (tgt := 49) hx hb dX6_told_43 (by decide) (fun c_43 => ?_) (fun c_43 => absurd c_43 (by decide))
    refine lv_iload_n hx hb dX6_told_49 rfl (lv_at hl 1 rfl) ?_
    refine lv_if_eq (tgt := 69) hx hb dX6_told_50 (by decide) (fun c_50 => ?_) (fun c_50 => absurd (by rw [k_9]; rfl) c_50)
    refine lv_aload_n hx hb dX6_told_69 rfl (lv_at hl 0 rfl) ?_
    refine g_get (TT := TX6) hc hw inX6_told_X6 0 6 6 rfl rfl (by decide) rfl rfl dX6_told_70 ?_
    refine lv_iconst (v := 3) hx hb dX6_told_73 (by decide) ?_
    refine lv_iload_n hx hb dX6_told_74 rfl (lv_at hl 2 rfl) ?_
    refine lv_imul hx hb dX6_told_75 ?_
    refine lv_iload_n hx hb dX6_told_76 rfl (lv_at hl 3 rfl) ?_
    refine lv_iadd hx hb dX6_told_77 ?_
    refine g_ild hc hw 1 ((3 * r9) + k) rfl (n_add (n_mul rfl rfl) rfl) (by omega) (by decide) dX6_told_78 ?_
    exact g_iret hQ hc hw hr (by exact congrArg (fun z => some (Value.int z)) (by rw [show ww = false from k_9, if_neg (by decide), show 3 * r9 + k = r9 * 3 + k by omega])) rfl dX6_told_79
  · skip
    have k_9 := b2i_ne c_9
    refine lv_aload_n hx hb dX6_told_12 rfl (lv_at hl 0 rfl) ?_
    refine g_get (TT := TX6) hc hw inX6_told_X6 0 4 2 rfl rfl (by decide) rfl rfl dX6_told_13 ?_
    refine lv_goto (tgt := 23) hx hb dX6_told_16 (by decide) ?_
    refine lv_iconst (v := 1) hx hb dX6_told_23 (by decide) ?_
    refine lv_isub hx hb dX6_told_24 ?_
    refine lv_i2l hx hb dX6_told_25 rfl ?_
    refine g_cS (As := [.long ((nI r9).toInt64), .long 0, .long (((nI nw) - 1).toInt64)]) (n := 3) (rest := []) (wc := []) (w1 := []) (bytes := cX6_in) (maxL := 6) (ret := (some .boolean)) hc hw hl.1 (m_X6_in (l := l) (D := D) (E := E) (T := T) ((nI r9).toInt64) 0 (((nI nw) - 1).toInt64)) gX6_told_X6_in rfl (by decide +kernel) (by rw [hR]; exact ⟨Nat.le_of_ble_eq_true rfl, Nat.le_of_ble_eq_true rfl⟩) [] (by decide) rfl [] rfl rfl rfl rfl (Nat.le_of_ble_eq_true rfl) dX6_told_26 ⟨Nat.zero_le _, Nat.zero_le _⟩ (fun H locs hw => ?_)
    have hw : g_W D A s [(o, .inr (6, [.int 0, u1, u2, u3, .int (nI nw), .int (nI nf), .ref fa, u7, u8, u9, u10, .ref pa, u12, u13, u14, u15, u16, u17, u18, u19, u20, u21, u22, u23, u24, u25, u26, u27, u28, u29, u30, u31, u32, u33, u34, u35])), (fa, .inl (E 0, 18, .inl fl)), (pa, .inl (E 0, 29, .inl (pgF S)))] H locs := hw
    refine W.eq (congrArg (fun z => F0 m 29 ls (.int z :: [])) (show (b2i (inL ((nI r9).toInt64) 0 (((nI nw) - 1).toInt64)) : Int32) = 1 from (congrArg b2i (in_rT hnw (hw1 k_9))))) ?_
    refine lv_if_ne (tgt := 34) hx hb dX6_told_29 (by decide) (fun c_29 => ?_) (fun c_29 => absurd c_29 (by decide))
    refine lv_iload_n hx hb dX6_told_34 rfl (lv_at hl 3 rfl) ?_
    refine lv_i2l hx hb dX6_told_35 rfl ?_
    refine lv_lconst (v := 0) hx hb dX6_told_36 (by decide) ?_
    refine lv_ldc2 (v := 2) hx hb hown (hts _ (List.mem_of_getElem? (i := 4) rfl)) dX6_told_37 ?_
    refine g_cS (As := [.long ((nI k).toInt64), .long 0, .long 2]) (n := 3) (rest := []) (wc := []) (w1 := []) (bytes := cX6_in) (maxL := 6) (ret := (some .boolean)) hc hw hl.1 (m_X6_in (l := l) (D := D) (E := E) (T := T) ((nI k).toInt64) 0 2) gX6_told_X6_in rfl (by decide +kernel) (by rw [hR]; exact ⟨Nat.le_of_ble_eq_true rfl, Nat.le_of_ble_eq_true rfl⟩) [] (by decide) rfl [] rfl rfl rfl rfl (Nat.le_of_ble_eq_true rfl) dX6_told_40 ⟨Nat.zero_le _, Nat.zero_le _⟩ (fun H locs hw => ?_)
    have hw : g_W D A s [(o, .inr (6, [.int 0, u1, u2, u3, .int (nI nw), .int (nI nf), .ref fa, u7, u8, u9, u10, .ref pa, u12, u13, u14, u15, u16, u17, u18, u19, u20, u21, u22, u23, u24, u25, u26, u27, u28, u29, u30, u31, u32, u33, u34, u35])), (fa, .inl (E 0, 18, .inl fl)), (pa, .inl (E 0, 29, .inl (pgF S)))] H locs := hw
    refine W.eq (congrArg (fun z => F0 m 43 ls (.int z :: [])) (show (b2i (inL ((nI k).toInt64) 0 2) : Int32) = 1 from (congrArg b2i (in_i (out_nf (n := k) (a := 0) (b := 2) (by omega) hk (by decide)) (by decide) (by decide))))) ?_
    refine lv_if_ne (tgt := 49) hx hb dX6_told_43 (by decide) (fun c_43 => ?_) (fun c_43 => absurd c_43 (by decide))
    refine lv_iload_n hx hb dX6_told_49 rfl (lv_at hl 1 rfl) ?_
    refine lv_if_eq (tgt := 69) hx hb dX6_told_50 (by decide) (fun c_50 => absurd c_50 (by rw [k_9]; decide)) (fun c_50 => ?_)
    refine lv_aload_n hx hb dX6_told_53 rfl (lv_at hl 0 rfl) ?_
    refine g_get (TT := TX6) hc hw inX6_told_X6 0 11 5 rfl rfl (by decide) rfl rfl dX6_told_54 ?_
    refine lv_bipush (v := 11) hx hb dX6_told_57 (by decide) ?_
    refine lv_iconst (v := 3) hx hb dX6_told_59 (by decide) ?_
    refine lv_iload_n hx hb dX6_told_60 rfl (lv_at hl 2 rfl) ?_
    refine lv_imul hx hb dX6_told_61 ?_
    refine lv_iadd hx hb dX6_told_62 ?_
    refine lv_iload_n hx hb dX6_told_63 rfl (lv_at hl 3 rfl) ?_
    refine lv_iadd hx hb dX6_told_64 ?_
    refine g_ild hc hw 2 ((11 + (3 * r9)) + k) rfl (n_add (n_add rfl (n_mul rfl rfl)) rfl) (by omega) (by decide) dX6_told_65 ?_
    refine lv_goto (tgt := 79) hx hb dX6_told_66 (by decide) ?_
    exact g_iret hQ hc hw hr (by exact congrArg (fun z => some (Value.int z)) (by rw [show ww = true from k_9, if_pos rfl, show 11 + 3 * r9 + k = 11 + (r9 * 3 + k) by omega, pgF_w])) rfl dX6_told_79

theorem dX6_momentum_0 : decode cX6_momentum 0 = .ok (.aload_n 0, 1) := by decide +kernel
theorem dX6_momentum_1 : decode cX6_momentum 1 = .ok (.iconst 0, 1) := by decide +kernel
theorem dX6_momentum_2 : decode cX6_momentum 2 = .ok (.putfield 88, 3) := by decide +kernel
theorem dX6_momentum_5 : decode cX6_momentum 5 = .ok (.iload_n 1, 1) := by decide +kernel
theorem dX6_momentum_6 : decode cX6_momentum 6 = .ok (.i2l, 1) := by decide +kernel
theorem dX6_momentum_7 : decode cX6_momentum 7 = .ok (.lconst 0, 1) := by decide +kernel
theorem dX6_momentum_8 : decode cX6_momentum 8 = .ok (.ldc2_w 227, 3) := by decide +kernel
theorem dX6_momentum_11 : decode cX6_momentum 11 = .ok (.invokestatic 94, 3) := by decide +kernel
theorem dX6_momentum_14 : decode cX6_momentum 14 = .ok (.ifCond .ne 6, 3) := by decide +kernel
theorem dX6_momentum_17 : decode cX6_momentum 17 = .ok (.bipush (-2), 2) := by decide +kernel
theorem dX6_momentum_19 : decode cX6_momentum 19 = .ok (.ireturn, 1) := by decide +kernel
set_option maxRecDepth 20000 in
theorem ggX6_momentum_X6_in : GoodIn wsX6_momentum wsX6_in := goodIn_r _ [8] rfl (by decide +kernel)
set_option maxRecDepth 20000 in
theorem gX6_momentum_X6_in : GoodIn wsX6_momentum (va_wsS RX6 94 yX6_in wsX6_in) := goodIn_app (goodIn_of _ (by decide +kernel)) ggX6_momentum_X6_in
theorem inX6_momentum_X6 : ∀ w ∈ u_ws RX6 TX6 36, w ∈ wsX6_momentum := fun w h => List.mem_cons_of_mem _ (List.mem_append_right _ h)
set_option maxRecDepth 100000 in
set_option maxHeartbeats 4000000 in
theorem m_X6_momentum_out {l : Launch} {D : va_G} {E : Nat → ClassId} {T : Nat → Nat} (o : Nat) (u0 : Value) (u1 : Value) (u2 : Value) (u3 : Value) (u4 : Value) (u5 : Value) (u6 : Value) (u7 : Value) (u8 : Value) (u9 : Value) (u10 : Value) (u11 : Value) (u12 : Value) (u13 : Value) (u14 : Value) (u15 : Value) (u16 : Value) (u17 : Value) (u18 : Value) (u19 : Value) (u20 : Value) (u21 : Value) (u22 : Value) (u23 : Value) (u24 : Value) (u25 : Value) (u26 : Value) (u27 : Value) (u28 : Value) (u29 : Value) (u30 : Value) (u31 : Value) (u32 : Value) (u33 : Value) (u34 : Value) (u35 : Value) (v : Int32) (ho : outB v 0 6 = true) : g_M l D E T yX6_momentum wsX6_momentum 1 25 [.ref o, .int v] [(o, .inr (6, [u0, u1, u2, u3, u4, u5, u6, u7, u8, u9, u10, u11, u12, u13, u14, u15, u16, u17, u18, u19, u20, u21, u22, u23, u24, u25, u26, u27, u28, u29, u30, u31, u32, u33, u34, u35]))] [(o, .inr (6, [.int 0, u1, u2, u3, u4, u5, u6, u7, u8, u9, u10, u11, u12, u13, u14, u15, u16, u17, u18, u19, u20, u21, u22, u23, u24, u25, u26, u27, u28, u29, u30, u31, u32, u33, u34, u35]))] (some (.int (-2))) := by
  refine g_M.of (cc := cX6_momentum) (nL := 2) (ret := (some .int)) (own := RX6) (lv := [(0, .ref o), (1, .int v)]) (by decide) rfl rfl (Nat.le_of_ble_eq_true rfl) rfl ?_
  intro p e R s m args below meth c A Q H locs ls hR hQ hc hr hw hl
  have hx := hc.1
  have hb := hc.2.1
  have hts := hc.2.2.2.1
  have hown := hc.2.2.2.2.1
  refine lv_aload_n hx hb dX6_momentum_0 rfl (lv_at hl 0 rfl) ?_
  refine lv_iconst (v := 0) hx hb dX6_momentum_1 (by decide) ?_
  refine g_put (TT := TX6) hc hw inX6_momentum_X6 tyX6 tyX6_ok nmX6 0 0 1 rfl rfl (by decide) rfl rfl rfl rfl (Nat.le_of_ble_eq_true rfl) dX6_momentum_2 (fun H locs hw => ?_)
  have hw : g_W D A s [(o, .inr (6, [.int 0, u1, u2, u3, u4, u5, u6, u7, u8, u9, u10, u11, u12, u13, u14, u15, u16, u17, u18, u19, u20, u21, u22, u23, u24, u25, u26, u27, u28, u29, u30, u31, u32, u33, u34, u35]))] H locs := hw
  refine lv_iload_n hx hb dX6_momentum_5 rfl (lv_at hl 1 rfl) ?_
  refine lv_i2l hx hb dX6_momentum_6 rfl ?_
  refine lv_lconst (v := 0) hx hb dX6_momentum_7 (by decide) ?_
  refine lv_ldc2 (v := 6) hx hb hown (hts _ (List.mem_of_getElem? (i := 2) rfl)) dX6_momentum_8 ?_
  refine g_cS (As := [.long v.toInt64, .long 0, .long 6]) (n := 3) (rest := []) (wc := []) (w1 := []) (bytes := cX6_in) (maxL := 6) (ret := (some .boolean)) hc hw hl.1 (m_X6_in (l := l) (D := D) (E := E) (T := T) v.toInt64 0 6) gX6_momentum_X6_in rfl (by decide +kernel) (by rw [hR]; exact ⟨Nat.le_of_ble_eq_true rfl, Nat.le_of_ble_eq_true rfl⟩) [] (by decide) rfl [] rfl rfl rfl rfl (Nat.le_of_ble_eq_true rfl) dX6_momentum_11 ⟨Nat.zero_le _, Nat.zero_le _⟩ (fun H locs hw => ?_)
  have hw : g_W D A s [(o, .inr (6, [.int 0, u1, u2, u3, u4, u5, u6, u7, u8, u9, u10, u11, u12, u13, u14, u15, u16, u17, u18, u19, u20, u21, u22, u23, u24, u25, u26, u27, u28, u29, u30, u31, u32, u33, u34, u35]))] H locs := hw
  refine W.eq (congrArg (fun z => F0 m 14 ls (.int z :: [])) (show (b2i (inL v.toInt64 0 6) : Int32) = 0 from (congrArg b2i (in_o (a := 0) (b := 6) ho (by decide) (by decide))))) ?_
  refine lv_if_ne (tgt := 20) hx hb dX6_momentum_14 (by decide) (fun c_14 => absurd c_14 (by decide)) (fun c_14 => ?_)
  refine lv_bipush (v := (-2)) hx hb dX6_momentum_17 (by decide) ?_
  exact g_iret hQ hc hw hr rfl rfl dX6_momentum_19

theorem dX6_momentum_20 : decode cX6_momentum 20 = .ok (.aload_n 0, 1) := by decide +kernel
theorem dX6_momentum_21 : decode cX6_momentum 21 = .ok (.aload_n 0, 1) := by decide +kernel
theorem dX6_momentum_22 : decode cX6_momentum 22 = .ok (.getfield 28, 3) := by decide +kernel
theorem dX6_momentum_25 : decode cX6_momentum 25 = .ok (.invokevirtual 184, 3) := by decide +kernel
theorem dX6_momentum_28 : decode cX6_momentum 28 = .ok (.iload_n 1, 1) := by decide +kernel
theorem dX6_momentum_29 : decode cX6_momentum 29 = .ok (.bipush 6, 2) := by decide +kernel
theorem dX6_momentum_31 : decode cX6_momentum 31 = .ok (.if_icmp .ne 15, 3) := by decide +kernel
theorem dX6_momentum_34 : decode cX6_momentum 34 = .ok (.aload_n 0, 1) := by decide +kernel
theorem dX6_momentum_35 : decode cX6_momentum 35 = .ok (.getfield 28, 3) := by decide +kernel
theorem dX6_momentum_38 : decode cX6_momentum 38 = .ok (.iconst 4, 1) := by decide +kernel
theorem dX6_momentum_39 : decode cX6_momentum 39 = .ok (.faload, 1) := by decide +kernel
theorem dX6_momentum_40 : decode cX6_momentum 40 = .ok (.invokestatic 216, 3) := by decide +kernel
theorem dX6_momentum_43 : decode cX6_momentum 43 = .ok (.goto 31, 3) := by decide +kernel
theorem dX6_momentum_46 : decode cX6_momentum 46 = .ok (.iload_n 1, 1) := by decide +kernel
theorem dX6_momentum_47 : decode cX6_momentum 47 = .ok (.iconst 3, 1) := by decide +kernel
theorem dX6_momentum_48 : decode cX6_momentum 48 = .ok (.if_icmp .ge 15, 3) := by decide +kernel
theorem dX6_momentum_51 : decode cX6_momentum 51 = .ok (.aload_n 0, 1) := by decide +kernel
theorem dX6_momentum_52 : decode cX6_momentum 52 = .ok (.getfield 75, 3) := by decide +kernel
theorem dX6_momentum_55 : decode cX6_momentum 55 = .ok (.iload_n 1, 1) := by decide +kernel
theorem dX6_momentum_56 : decode cX6_momentum 56 = .ok (.faload, 1) := by decide +kernel
theorem dX6_momentum_57 : decode cX6_momentum 57 = .ok (.invokestatic 216, 3) := by decide +kernel
theorem dX6_momentum_60 : decode cX6_momentum 60 = .ok (.goto 14, 3) := by decide +kernel
theorem dX6_momentum_63 : decode cX6_momentum 63 = .ok (.aload_n 0, 1) := by decide +kernel
theorem dX6_momentum_64 : decode cX6_momentum 64 = .ok (.getfield 75, 3) := by decide +kernel
theorem dX6_momentum_67 : decode cX6_momentum 67 = .ok (.iload_n 1, 1) := by decide +kernel
theorem dX6_momentum_68 : decode cX6_momentum 68 = .ok (.iconst 3, 1) := by decide +kernel
theorem dX6_momentum_69 : decode cX6_momentum 69 = .ok (.isub, 1) := by decide +kernel
theorem dX6_momentum_70 : decode cX6_momentum 70 = .ok (.faload, 1) := by decide +kernel
theorem dX6_momentum_71 : decode cX6_momentum 71 = .ok (.invokestatic 222, 3) := by decide +kernel
theorem dX6_momentum_74 : decode cX6_momentum 74 = .ok (.ireturn, 1) := by decide +kernel
set_option maxRecDepth 20000 in
theorem ggX6_momentum_X6_layMomentum : GoodIn wsX6_momentum wsX6_layMomentum := goodIn_r _ [12, 4, 13, 30, 31, 32, 33, 34, 35, 36, 37, 38, 39, 40, 41, 42, 43, 44, 45, 46, 47, 48, 49, 50, 51, 52, 53, 54, 55, 56, 57, 58, 59, 60, 61, 62, 63, 64, 65] rfl (by decide +kernel)
set_option maxRecDepth 20000 in
theorem gX6_momentum_X6_layMomentum : GoodIn wsX6_momentum (wsV RX6 184 RX6 yX6_layMomentum wsX6_layMomentum) := goodIn_app (goodIn_of _ (by decide +kernel)) ggX6_momentum_X6_layMomentum
set_option maxRecDepth 20000 in
theorem ggX6_momentum_X6_thousandths : GoodIn wsX6_momentum wsX6_thousandths := goodIn_r _ [28, 29] rfl (by decide +kernel)
set_option maxRecDepth 20000 in
theorem gX6_momentum_X6_thousandths : GoodIn wsX6_momentum (va_wsS RX6 222 yX6_thousandths wsX6_thousandths) := goodIn_app (goodIn_of _ (by decide +kernel)) ggX6_momentum_X6_thousandths
set_option maxRecDepth 20000 in
theorem ggX6_momentum_Jxf58ca_floatToIntBits_5c35a : GoodIn wsX6_momentum wsJxf58ca_floatToIntBits_5c35a := goodIn_r _ [17, 18, 19, 20, 21, 22, 23, 24, 16, 25] rfl (by decide +kernel)
set_option maxRecDepth 20000 in
theorem gX6_momentum_Jxf58ca_floatToIntBits_5c35a : GoodIn wsX6_momentum (va_wsS RX6 216 yJxf58ca_floatToIntBits_5c35a wsJxf58ca_floatToIntBits_5c35a) := goodIn_app (goodIn_of _ (by decide +kernel)) ggX6_momentum_Jxf58ca_floatToIntBits_5c35a
set_option maxRecDepth 100000 in
set_option maxHeartbeats 4000000 in
theorem m_X6_momentum {l : Launch} {D : va_G} {E : Nat → ClassId} {T : Nat → Nat} (o : Nat) (xa : Nat) (ma : Nat) (va : Nat) (B : Nat) (k : Nat) (u0 : Value) (u1 : Value) (u2 : Value) (u4 : Value) (u5 : Value) (u6 : Value) (u7 : Value) (u8 : Value) (u9 : Value) (u10 : Value) (u11 : Value) (u13 : Value) (u14 : Value) (u15 : Value) (u16 : Value) (u17 : Value) (u18 : Value) (u19 : Value) (u20 : Value) (u21 : Value) (u22 : Value) (u23 : Value) (u24 : Value) (u25 : Value) (u26 : Value) (u27 : Value) (u28 : Value) (u29 : Value) (u30 : Value) (u31 : Value) (u32 : Value) (u34 : Value) (u35 : Value) (S : TS) (g : Nat → UInt32) (hok : OkS B S) (hk : k ≤ 6) : g_M l D E T yX6_momentum wsX6_momentum 2 43 [.ref o, .int (nI k)] [(o, .inr (6, [u0, u1, u2, .ref xa, u4, u5, u6, u7, u8, u9, u10, u11, .ref va, u13, u14, u15, u16, u17, u18, u19, u20, u21, u22, u23, u24, u25, u26, u27, u28, u29, u30, u31, u32, .ref ma, u34, u35])), (xa, .inl (E 0, 12, .inl (g_tv 0))), (ma, .inl (E 1, 3, .inr (.inr (.inl g)))), (va, .inl (E 1, 5, .inr (.inr (.inl (fl5 S)))))] [(o, .inr (6, [.int 0, u1, u2, .ref xa, u4, u5, u6, u7, u8, u9, u10, u11, .ref va, u13, u14, u15, u16, u17, u18, u19, u20, u21, u22, u23, u24, u25, u26, u27, u28, u29, u30, u31, u32, .ref ma, u34, u35])), (xa, .inl (E 0, 12, .inl (g_tv 0))), (ma, .inl (E 1, 3, .inr (.inr (.inl (moF (sF S)))))), (va, .inl (E 1, 5, .inr (.inr (.inl (fl5 S)))))] (some (.int (moA S k))) := by
  refine g_M.of (cc := cX6_momentum) (nL := 2) (ret := (some .int)) (own := RX6) (lv := [(0, .ref o), (1, .int (nI k))]) (by decide) rfl rfl (Nat.le_of_ble_eq_true rfl) rfl ?_
  intro p e R s m args below meth c A Q H locs ls hR hQ hc hr hw hl
  have hx := hc.1
  have hb := hc.2.1
  have hts := hc.2.2.2.1
  have hown := hc.2.2.2.2.1
  refine lv_aload_n hx hb dX6_momentum_0 rfl (lv_at hl 0 rfl) ?_
  refine lv_iconst (v := 0) hx hb dX6_momentum_1 (by decide) ?_
  refine g_put (TT := TX6) hc hw inX6_momentum_X6 tyX6 tyX6_ok nmX6 0 0 1 rfl rfl (by decide) rfl rfl rfl rfl (Nat.le_of_ble_eq_true rfl) dX6_momentum_2 (fun H locs hw => ?_)
  have hw : g_W D A s [(o, .inr (6, [.int 0, u1, u2, .ref xa, u4, u5, u6, u7, u8, u9, u10, u11, .ref va, u13, u14, u15, u16, u17, u18, u19, u20, u21, u22, u23, u24, u25, u26, u27, u28, u29, u30, u31, u32, .ref ma, u34, u35])), (xa, .inl (E 0, 12, .inl (g_tv 0))), (ma, .inl (E 1, 3, .inr (.inr (.inl g)))), (va, .inl (E 1, 5, .inr (.inr (.inl (fl5 S)))))] H locs := hw
  refine lv_iload_n hx hb dX6_momentum_5 rfl (lv_at hl 1 rfl) ?_
  refine lv_i2l hx hb dX6_momentum_6 rfl ?_
  refine lv_lconst (v := 0) hx hb dX6_momentum_7 (by decide) ?_
  refine lv_ldc2 (v := 6) hx hb hown (hts _ (List.mem_of_getElem? (i := 2) rfl)) dX6_momentum_8 ?_
  refine g_cS (As := [.long ((nI k).toInt64), .long 0, .long 6]) (n := 3) (rest := []) (wc := []) (w1 := []) (bytes := cX6_in) (maxL := 6) (ret := (some .boolean)) hc hw hl.1 (m_X6_in (l := l) (D := D) (E := E) (T := T) ((nI k).toInt64) 0 6) gX6_momentum_X6_in rfl (by decide +kernel) (by rw [hR]; exact ⟨Nat.le_of_ble_eq_true rfl, Nat.le_of_ble_eq_true rfl⟩) [] (by decide) rfl [] rfl rfl rfl rfl (Nat.le_of_ble_eq_true rfl) dX6_momentum_11 ⟨Nat.zero_le _, Nat.zero_le _⟩ (fun H locs hw => ?_)
  have hw : g_W D A s [(o, .inr (6, [.int 0, u1, u2, .ref xa, u4, u5, u6, u7, u8, u9, u10, u11, .ref va, u13, u14, u15, u16, u17, u18, u19, u20, u21, u22, u23, u24, u25, u26, u27, u28, u29, u30, u31, u32, .ref ma, u34, u35])), (xa, .inl (E 0, 12, .inl (g_tv 0))), (ma, .inl (E 1, 3, .inr (.inr (.inl g)))), (va, .inl (E 1, 5, .inr (.inr (.inl (fl5 S)))))] H locs := hw
  refine W.eq (congrArg (fun z => F0 m 14 ls (.int z :: [])) (show (b2i (inL ((nI k).toInt64) 0 6) : Int32) = 1 from (congrArg b2i (in_i (out_nf (n := k) (a := 0) (b := 6) (by omega) hk (by decide)) (by decide) (by decide))))) ?_
  refine lv_if_ne (tgt := 20) hx hb dX6_momentum_14 (by decide) (fun c_14 => ?_) (fun c_14 => absurd c_14 (by decide))
  refine lv_aload_n hx hb dX6_momentum_20 rfl (lv_at hl 0 rfl) ?_
  refine lv_aload_n hx hb dX6_momentum_21 rfl (lv_at hl 0 rfl) ?_
  refine g_get (TT := TX6) hc hw inX6_momentum_X6 0 12 3 rfl rfl (by decide) rfl rfl dX6_momentum_22 ?_
  refine g_cV (As := [.ref va]) (n := 1) (rest := []) (wc := [(o, .inr (6, [.int 0, u1, u2, .ref xa, u4, u5, u6, u7, u8, u9, u10, u11, .ref va, u13, u14, u15, u16, u17, u18, u19, u20, u21, u22, u23, u24, u25, u26, u27, u28, u29, u30, u31, u32, .ref ma, u34, u35])), (xa, .inl (E 0, 12, .inl (g_tv 0))), (ma, .inl (E 1, 3, .inr (.inr (.inl g)))), (va, .inl (E 1, 5, .inr (.inr (.inl (fl5 S)))))]) (w1 := [(o, .inr (6, [.int 0, u1, u2, .ref xa, u4, u5, u6, u7, u8, u9, u10, u11, .ref va, u13, u14, u15, u16, u17, u18, u19, u20, u21, u22, u23, u24, u25, u26, u27, u28, u29, u30, u31, u32, .ref ma, u34, u35])), (xa, .inl (E 0, 12, .inl (g_tv 0))), (ma, .inl (E 1, 3, .inr (.inr (.inl (moF (sF S)))))), (va, .inl (E 1, 5, .inr (.inr (.inl (fl5 S)))))]) (bytes := cX6_layMomentum) (maxL := 3) (ret := none) hc hw hl.1 (m_X6_layMomentum (l := l) (D := D) (E := E) (T := T) o xa ma va B (.int 0) u1 u2 u4 u5 u6 u7 u8 u9 u10 u11 (.ref va) u13 u14 u15 u16 u17 u18 u19 u20 u21 u22 u23 u24 u25 u26 u27 u28 u29 u30 u31 u32 u34 u35 S g hok) gX6_momentum_X6_layMomentum rfl (by decide +kernel) (by rw [hR]; exact ⟨Nat.le_of_ble_eq_true rfl, Nat.le_of_ble_eq_true rfl⟩) [0, 1, 2, 3] 0 6 rfl rfl (by decide) rfl [o, xa, ma, va] rfl rfl rfl rfl (Nat.le_of_ble_eq_true rfl) dX6_momentum_25 ⟨Nat.zero_le _, Nat.zero_le _⟩ (fun H locs hw => ?_)
  have hw : g_W D A s [(o, .inr (6, [.int 0, u1, u2, .ref xa, u4, u5, u6, u7, u8, u9, u10, u11, .ref va, u13, u14, u15, u16, u17, u18, u19, u20, u21, u22, u23, u24, u25, u26, u27, u28, u29, u30, u31, u32, .ref ma, u34, u35])), (xa, .inl (E 0, 12, .inl (g_tv 0))), (ma, .inl (E 1, 3, .inr (.inr (.inl (moF (sF S)))))), (va, .inl (E 1, 5, .inr (.inr (.inl (fl5 S)))))] H locs := hw
  refine lv_iload_n hx hb dX6_momentum_28 rfl (lv_at hl 1 rfl) ?_
  refine lv_bipush (v := 6) hx hb dX6_momentum_29 (by decide) ?_
  refine lv_icmp_ne (tgt := 46) hx hb dX6_momentum_31 (by decide) (fun c_31 => ?_) (fun c_31 => ?_)
  · skip
    have n_31 : ¬ k = 6 := nf_neT rfl rfl (by omega) (by omega) c_31
    refine lv_iload_n hx hb dX6_momentum_46 rfl (lv_at hl 1 rfl) ?_
    refine lv_iconst (v := 3) hx hb dX6_momentum_47 (by decide) ?_
    refine lv_icmp_ge (tgt := 63) hx hb dX6_momentum_48 (by decide) (fun c_48 => ?_) (fun c_48 => ?_)
    · skip
      have n_48 : 3 ≤ k := nf_geT rfl rfl (by omega) (by omega) c_48
      refine lv_aload_n hx hb dX6_momentum_63 rfl (lv_at hl 0 rfl) ?_
      refine g_get (TT := TX6) hc hw inX6_momentum_X6 0 33 4 rfl rfl (by decide) rfl rfl dX6_momentum_64 ?_
      refine lv_iload_n hx hb dX6_momentum_67 rfl (lv_at hl 1 rfl) ?_
      refine lv_iconst (v := 3) hx hb dX6_momentum_68 (by decide) ?_
      refine lv_isub hx hb dX6_momentum_69 ?_
      refine g_fld hc hw 2 (k - 3) rfl (n_sub rfl rfl (by omega)) (by omega) (by decide) dX6_momentum_70 ?_
      refine g_cS (As := [.float ((moF (sF S)) (k - 3))]) (n := 1) (rest := []) (wc := []) (w1 := []) (bytes := cX6_thousandths) (maxL := 1) (ret := (some .int)) hc hw hl.1 (m_X6_thousandths (l := l) (D := D) (E := E) (T := T) ((moF (sF S)) (k - 3)) (g_mgmo hok.f (k := k - 3) (by omega))) gX6_momentum_X6_thousandths rfl (by decide +kernel) (by rw [hR]; exact ⟨Nat.le_of_ble_eq_true rfl, Nat.le_of_ble_eq_true rfl⟩) [] (by decide) rfl [] rfl rfl rfl rfl (Nat.le_of_ble_eq_true rfl) dX6_momentum_71 ⟨Nat.zero_le _, Nat.zero_le _⟩ (fun H locs hw => ?_)
      have hw : g_W D A s [(o, .inr (6, [.int 0, u1, u2, .ref xa, u4, u5, u6, u7, u8, u9, u10, u11, .ref va, u13, u14, u15, u16, u17, u18, u19, u20, u21, u22, u23, u24, u25, u26, u27, u28, u29, u30, u31, u32, .ref ma, u34, u35])), (xa, .inl (E 0, 12, .inl (g_tv 0))), (ma, .inl (E 1, 3, .inr (.inr (.inl (moF (sF S)))))), (va, .inl (E 1, 5, .inr (.inr (.inl (fl5 S)))))] H locs := hw
      exact g_iret hQ hc hw hr (by exact congrArg (fun z => some (Value.int z)) (by unfold moA; simp only [if_neg n_31, if_neg (Nat.not_lt.mpr n_48)])) rfl dX6_momentum_74
    · skip
      have n_48 : k < 3 := nf_geF rfl rfl (by omega) (by omega) c_48
      refine lv_aload_n hx hb dX6_momentum_51 rfl (lv_at hl 0 rfl) ?_
      refine g_get (TT := TX6) hc hw inX6_momentum_X6 0 33 4 rfl rfl (by decide) rfl rfl dX6_momentum_52 ?_
      refine lv_iload_n hx hb dX6_momentum_55 rfl (lv_at hl 1 rfl) ?_
      refine g_fld hc hw 2 k rfl rfl (by omega) (by decide) dX6_momentum_56 ?_
      refine g_cS (As := [.float ((moF (sF S)) k)]) (n := 1) (rest := []) (wc := []) (w1 := []) (bytes := cJxf58ca_floatToIntBits_5c35a) (maxL := 1) (ret := (some .int)) hc hw hl.1 (m_Jxf58ca_floatToIntBits_5c35a (l := l) (D := D) (E := E) (T := T) ((moF (sF S)) k) (g_mgW (g_mgmo hok.f (k := k) (by omega)) (by decide))) gX6_momentum_Jxf58ca_floatToIntBits_5c35a rfl (by decide +kernel) (by rw [hR]; exact ⟨Nat.le_of_ble_eq_true rfl, Nat.le_of_ble_eq_true rfl⟩) [] (by decide) rfl [] rfl rfl rfl rfl (Nat.le_of_ble_eq_true rfl) dX6_momentum_57 ⟨Nat.zero_le _, Nat.zero_le _⟩ (fun H locs hw => ?_)
      have hw : g_W D A s [(o, .inr (6, [.int 0, u1, u2, .ref xa, u4, u5, u6, u7, u8, u9, u10, u11, .ref va, u13, u14, u15, u16, u17, u18, u19, u20, u21, u22, u23, u24, u25, u26, u27, u28, u29, u30, u31, u32, .ref ma, u34, u35])), (xa, .inl (E 0, 12, .inl (g_tv 0))), (ma, .inl (E 1, 3, .inr (.inr (.inl (moF (sF S)))))), (va, .inl (E 1, 5, .inr (.inr (.inl (fl5 S)))))] H locs := hw
      refine lv_goto (tgt := 74) hx hb dX6_momentum_60 (by decide) ?_
      exact g_iret hQ hc hw hr (by exact congrArg (fun z => some (Value.int z)) (by unfold moA; simp only [if_neg n_31, if_pos n_48])) rfl dX6_momentum_74
  · skip
    have n_31 : k = 6 := nf_neF rfl rfl (by omega) (by omega) c_31
    refine lv_aload_n hx hb dX6_momentum_34 rfl (lv_at hl 0 rfl) ?_
    refine g_get (TT := TX6) hc hw inX6_momentum_X6 0 12 3 rfl rfl (by decide) rfl rfl dX6_momentum_35 ?_
    refine lv_iconst (v := 4) hx hb dX6_momentum_38 (by decide) ?_
    refine g_fld hc hw 3 4 rfl rfl (by omega) (by decide) dX6_momentum_39 ?_
    refine W.eq (congrArg (fun z => F0 m 40 ls (.float z :: [])) (show ((fl5 S) 4 : UInt32) = sP S from rfl)) ?_
    refine g_cS (As := [.float (sP S)]) (n := 1) (rest := []) (wc := []) (w1 := []) (bytes := cJxf58ca_floatToIntBits_5c35a) (maxL := 1) (ret := (some .int)) hc hw hl.1 (m_Jxf58ca_floatToIntBits_5c35a (l := l) (D := D) (E := E) (T := T) (sP S) (g_mgW hok.sp (by decide))) gX6_momentum_Jxf58ca_floatToIntBits_5c35a rfl (by decide +kernel) (by rw [hR]; exact ⟨Nat.le_of_ble_eq_true rfl, Nat.le_of_ble_eq_true rfl⟩) [] (by decide) rfl [] rfl rfl rfl rfl (Nat.le_of_ble_eq_true rfl) dX6_momentum_40 ⟨Nat.zero_le _, Nat.zero_le _⟩ (fun H locs hw => ?_)
    have hw : g_W D A s [(o, .inr (6, [.int 0, u1, u2, .ref xa, u4, u5, u6, u7, u8, u9, u10, u11, .ref va, u13, u14, u15, u16, u17, u18, u19, u20, u21, u22, u23, u24, u25, u26, u27, u28, u29, u30, u31, u32, .ref ma, u34, u35])), (xa, .inl (E 0, 12, .inl (g_tv 0))), (ma, .inl (E 1, 3, .inr (.inr (.inl (moF (sF S)))))), (va, .inl (E 1, 5, .inr (.inr (.inl (fl5 S)))))] H locs := hw
    refine lv_goto (tgt := 74) hx hb dX6_momentum_43 (by decide) ?_
    exact g_iret hQ hc hw hr (by exact congrArg (fun z => some (Value.int z)) (by unfold moA; simp only [if_pos n_31])) rfl dX6_momentum_74

theorem dX6_note_0 : decode cX6_note 0 = .ok (.aload_n 0, 1) := by decide +kernel
theorem dX6_note_1 : decode cX6_note 1 = .ok (.getfield 136, 3) := by decide +kernel
theorem dX6_note_4 : decode cX6_note 4 = .ok (.bipush 14, 2) := by decide +kernel
theorem dX6_note_6 : decode cX6_note 6 = .ok (.if_icmp .ne 71, 3) := by decide +kernel
theorem dX6_note_9 : decode cX6_note 9 = .ok (.iconst 0, 1) := by decide +kernel
theorem dX6_note_10 : decode cX6_note 10 = .ok (.istore_n 1, 1) := by decide +kernel
theorem dX6_note_11 : decode cX6_note 11 = .ok (.iload_n 1, 1) := by decide +kernel
theorem dX6_note_12 : decode cX6_note 12 = .ok (.sipush 377, 3) := by decide +kernel
theorem dX6_note_15 : decode cX6_note 15 = .ok (.if_icmp .ge 24, 3) := by decide +kernel
theorem dX6_note_18 : decode cX6_note 18 = .ok (.aload_n 0, 1) := by decide +kernel
theorem dX6_note_19 : decode cX6_note 19 = .ok (.getfield 38, 3) := by decide +kernel
theorem dX6_note_22 : decode cX6_note 22 = .ok (.iload_n 1, 1) := by decide +kernel
theorem dX6_note_23 : decode cX6_note 23 = .ok (.aload_n 0, 1) := by decide +kernel
theorem dX6_note_24 : decode cX6_note 24 = .ok (.getfield 38, 3) := by decide +kernel
theorem dX6_note_27 : decode cX6_note 27 = .ok (.iload_n 1, 1) := by decide +kernel
theorem dX6_note_28 : decode cX6_note 28 = .ok (.bipush 29, 2) := by decide +kernel
theorem dX6_note_30 : decode cX6_note 30 = .ok (.iadd, 1) := by decide +kernel
theorem dX6_note_31 : decode cX6_note 31 = .ok (.iaload, 1) := by decide +kernel
theorem dX6_note_32 : decode cX6_note 32 = .ok (.iastore, 1) := by decide +kernel
theorem dX6_note_33 : decode cX6_note 33 = .ok (.iinc 1 1, 3) := by decide +kernel
theorem dX6_note_36 : decode cX6_note 36 = .ok (.goto (-25), 3) := by decide +kernel
theorem dX6_note_39 : decode cX6_note 39 = .ok (.iconst 0, 1) := by decide +kernel
theorem dX6_note_40 : decode cX6_note 40 = .ok (.istore_n 1, 1) := by decide +kernel
theorem dX6_note_41 : decode cX6_note 41 = .ok (.iload_n 1, 1) := by decide +kernel
theorem dX6_note_42 : decode cX6_note 42 = .ok (.bipush 65, 2) := by decide +kernel
theorem dX6_note_44 : decode cX6_note 44 = .ok (.if_icmp .ge 23, 3) := by decide +kernel
theorem dX6_note_47 : decode cX6_note 47 = .ok (.aload_n 0, 1) := by decide +kernel
theorem dX6_note_48 : decode cX6_note 48 = .ok (.getfield 41, 3) := by decide +kernel
theorem dX6_note_51 : decode cX6_note 51 = .ok (.iload_n 1, 1) := by decide +kernel
theorem dX6_note_52 : decode cX6_note 52 = .ok (.aload_n 0, 1) := by decide +kernel
theorem dX6_note_53 : decode cX6_note 53 = .ok (.getfield 41, 3) := by decide +kernel
theorem dX6_note_56 : decode cX6_note 56 = .ok (.iload_n 1, 1) := by decide +kernel
theorem dX6_note_57 : decode cX6_note 57 = .ok (.iconst 5, 1) := by decide +kernel
theorem dX6_note_58 : decode cX6_note 58 = .ok (.iadd, 1) := by decide +kernel
theorem dX6_note_59 : decode cX6_note 59 = .ok (.faload, 1) := by decide +kernel
theorem dX6_note_60 : decode cX6_note 60 = .ok (.fastore, 1) := by decide +kernel
theorem dX6_note_61 : decode cX6_note 61 = .ok (.iinc 1 1, 3) := by decide +kernel
theorem dX6_note_64 : decode cX6_note 64 = .ok (.goto (-23), 3) := by decide +kernel
theorem dX6_note_67 : decode cX6_note 67 = .ok (.aload_n 0, 1) := by decide +kernel
theorem dX6_note_68 : decode cX6_note 68 = .ok (.dup, 1) := by decide +kernel
theorem dX6_note_69 : decode cX6_note 69 = .ok (.getfield 136, 3) := by decide +kernel
theorem dX6_note_72 : decode cX6_note 72 = .ok (.iconst 1, 1) := by decide +kernel
theorem dX6_note_73 : decode cX6_note 73 = .ok (.isub, 1) := by decide +kernel
theorem dX6_note_74 : decode cX6_note 74 = .ok (.putfield 136, 3) := by decide +kernel
theorem dX6_note_77 : decode cX6_note 77 = .ok (.iconst 0, 1) := by decide +kernel
theorem dX6_note_78 : decode cX6_note 78 = .ok (.istore_n 1, 1) := by decide +kernel
theorem dX6_note_79 : decode cX6_note 79 = .ok (.iload_n 1, 1) := by decide +kernel
theorem dX6_note_80 : decode cX6_note 80 = .ok (.bipush 29, 2) := by decide +kernel
theorem dX6_note_82 : decode cX6_note 82 = .ok (.if_icmp .ge 29, 3) := by decide +kernel
theorem dX6_note_85 : decode cX6_note 85 = .ok (.aload_n 0, 1) := by decide +kernel
theorem dX6_note_86 : decode cX6_note 86 = .ok (.getfield 38, 3) := by decide +kernel
theorem dX6_note_89 : decode cX6_note 89 = .ok (.bipush 29, 2) := by decide +kernel
theorem dX6_note_91 : decode cX6_note 91 = .ok (.aload_n 0, 1) := by decide +kernel
theorem dX6_note_92 : decode cX6_note 92 = .ok (.getfield 136, 3) := by decide +kernel
theorem dX6_note_95 : decode cX6_note 95 = .ok (.imul, 1) := by decide +kernel
theorem dX6_note_96 : decode cX6_note 96 = .ok (.iload_n 1, 1) := by decide +kernel
theorem dX6_note_97 : decode cX6_note 97 = .ok (.iadd, 1) := by decide +kernel
theorem dX6_note_98 : decode cX6_note 98 = .ok (.aload_n 0, 1) := by decide +kernel
theorem dX6_note_99 : decode cX6_note 99 = .ok (.getfield 25, 3) := by decide +kernel
theorem dX6_note_102 : decode cX6_note 102 = .ok (.iload_n 1, 1) := by decide +kernel
theorem dX6_note_103 : decode cX6_note 103 = .ok (.iaload, 1) := by decide +kernel
theorem dX6_note_104 : decode cX6_note 104 = .ok (.iastore, 1) := by decide +kernel
theorem dX6_note_105 : decode cX6_note 105 = .ok (.iinc 1 1, 3) := by decide +kernel
theorem dX6_note_108 : decode cX6_note 108 = .ok (.goto (-29), 3) := by decide +kernel
theorem dX6_note_111 : decode cX6_note 111 = .ok (.iconst 0, 1) := by decide +kernel
theorem dX6_note_112 : decode cX6_note 112 = .ok (.istore_n 1, 1) := by decide +kernel
theorem dX6_note_113 : decode cX6_note 113 = .ok (.iload_n 1, 1) := by decide +kernel
theorem dX6_note_114 : decode cX6_note 114 = .ok (.iconst 5, 1) := by decide +kernel
theorem dX6_note_115 : decode cX6_note 115 = .ok (.if_icmp .ge 28, 3) := by decide +kernel
theorem dX6_note_118 : decode cX6_note 118 = .ok (.aload_n 0, 1) := by decide +kernel
theorem dX6_note_119 : decode cX6_note 119 = .ok (.getfield 41, 3) := by decide +kernel
theorem dX6_note_122 : decode cX6_note 122 = .ok (.iconst 5, 1) := by decide +kernel
theorem dX6_note_123 : decode cX6_note 123 = .ok (.aload_n 0, 1) := by decide +kernel
theorem dX6_note_124 : decode cX6_note 124 = .ok (.getfield 136, 3) := by decide +kernel
theorem dX6_note_127 : decode cX6_note 127 = .ok (.imul, 1) := by decide +kernel
theorem dX6_note_128 : decode cX6_note 128 = .ok (.iload_n 1, 1) := by decide +kernel
theorem dX6_note_129 : decode cX6_note 129 = .ok (.iadd, 1) := by decide +kernel
theorem dX6_note_130 : decode cX6_note 130 = .ok (.aload_n 0, 1) := by decide +kernel
theorem dX6_note_131 : decode cX6_note 131 = .ok (.getfield 28, 3) := by decide +kernel
theorem dX6_note_134 : decode cX6_note 134 = .ok (.iload_n 1, 1) := by decide +kernel
theorem dX6_note_135 : decode cX6_note 135 = .ok (.faload, 1) := by decide +kernel
theorem dX6_note_136 : decode cX6_note 136 = .ok (.fastore, 1) := by decide +kernel
theorem dX6_note_137 : decode cX6_note 137 = .ok (.iinc 1 1, 3) := by decide +kernel
theorem dX6_note_140 : decode cX6_note 140 = .ok (.goto (-27), 3) := by decide +kernel
theorem dX6_note_143 : decode cX6_note 143 = .ok (.aload_n 0, 1) := by decide +kernel
theorem dX6_note_144 : decode cX6_note 144 = .ok (.dup, 1) := by decide +kernel
theorem dX6_note_145 : decode cX6_note 145 = .ok (.getfield 136, 3) := by decide +kernel
theorem dX6_note_148 : decode cX6_note 148 = .ok (.iconst 1, 1) := by decide +kernel
theorem dX6_note_149 : decode cX6_note 149 = .ok (.iadd, 1) := by decide +kernel
theorem dX6_note_150 : decode cX6_note 150 = .ok (.putfield 136, 3) := by decide +kernel
theorem dX6_note_153 : decode cX6_note 153 = .ok (.return_, 1) := by decide +kernel
theorem inX6_note_X6 : ∀ w ∈ u_ws RX6 TX6 36, w ∈ wsX6_note := fun w h => List.mem_cons_of_mem _ (List.mem_append_right _ h)
set_option maxRecDepth 100000 in
set_option maxHeartbeats 4000000 in
theorem m_X6_note {l : Launch} {D : va_G} {E : Nat → ClassId} {T : Nat → Nat} (o : Nat) (pa : Nat) (va : Nat) (bk : Nat) (bs : Nat) (d : Nat) (u0 : Value) (u1 : Value) (u2 : Value) (u3 : Value) (u4 : Value) (u5 : Value) (u6 : Value) (u7 : Value) (u8 : Value) (u9 : Value) (u10 : Value) (u13 : Value) (u14 : Value) (u18 : Value) (u19 : Value) (u20 : Value) (u21 : Value) (u22 : Value) (u23 : Value) (u24 : Value) (u25 : Value) (u26 : Value) (u27 : Value) (u28 : Value) (u29 : Value) (u30 : Value) (u31 : Value) (u32 : Value) (u33 : Value) (u34 : Value) (u35 : Value) (S : TS) (bb : Nat → Int32) (bf : Nat → UInt32) (hd9 : d ≤ 14) : g_M l D E T yX6_note wsX6_note 0 0 [.ref o] [(o, .inr (6, [u0, u1, u2, u3, u4, u5, u6, u7, u8, u9, u10, .ref pa, .ref va, u13, u14, .ref bk, .ref bs, .int (nI d), u18, u19, u20, u21, u22, u23, u24, u25, u26, u27, u28, u29, u30, u31, u32, u33, u34, u35])), (pa, .inl (E 0, 29, .inl (pgF S))), (va, .inl (E 1, 5, .inr (.inr (.inl (fl5 S))))), (bk, .inl (E 0, 406, .inl bb)), (bs, .inl (E 1, 70, .inr (.inr (.inl bf))))] [(o, .inr (6, [u0, u1, u2, u3, u4, u5, u6, u7, u8, u9, u10, .ref pa, .ref va, u13, u14, .ref bk, .ref bs, .int (nI (min d 13 + 1)), u18, u19, u20, u21, u22, u23, u24, u25, u26, u27, u28, u29, u30, u31, u32, u33, u34, u35])), (pa, .inl (E 0, 29, .inl (pgF S))), (va, .inl (E 1, 5, .inr (.inr (.inl (fl5 S))))), (bk, .inl (E 0, 406, .inl (noI d bb S))), (bs, .inl (E 1, 70, .inr (.inr (.inl (noF d bf S)))))] none := by
  refine g_M.of (cc := cX6_note) (nL := 2) (ret := none) (own := RX6) (lv := [(0, .ref o)]) (by decide) rfl rfl (Nat.le_of_ble_eq_true rfl) rfl ?_
  intro p e R s m args below meth c A Q H locs ls hR hQ hc hr hw hl
  have hx := hc.1
  have hb := hc.2.1
  have hts := hc.2.2.2.1
  have hown := hc.2.2.2.2.1
  refine lv_aload_n hx hb dX6_note_0 rfl (lv_at hl 0 rfl) ?_
  refine g_get (TT := TX6) hc hw inX6_note_X6 0 17 1 rfl rfl (by decide) rfl rfl dX6_note_1 ?_
  refine lv_bipush (v := 14) hx hb dX6_note_4 (by decide) ?_
  have J77 : ∀ (bb1 : Nat → Int32) (bf1 : Nat → UInt32) (d1 : Nat), (noI0 d bb = bb1) → (noF0 d bf = bf1) → (d1 = min d 13) → ∀ (H : Heap) (locs : List Loc) (ls : Array Slot), g_W D A s [(o, .inr (6, [u0, u1, u2, u3, u4, u5, u6, u7, u8, u9, u10, .ref pa, .ref va, u13, u14, .ref bk, .ref bs, .int (nI d1), u18, u19, u20, u21, u22, u23, u24, u25, u26, u27, u28, u29, u30, u31, u32, u33, u34, u35])), (pa, .inl (E 0, 29, .inl (pgF S))), (va, .inl (E 1, 5, .inr (.inr (.inl (fl5 S))))), (bk, .inl (E 0, 406, .inl bb1)), (bs, .inl (E 1, 70, .inr (.inr (.inl bf1))))] H locs → lv_has ls 2 [(0, .ref o)] → W p l e R s m args below meth c H locs 0 0 Q (F0 m 77 ls []) := by
    intro bb1 bf1 d1 hbb hbf hd1 H locs ls hw hl
    refine lv_iconst (v := 0) hx hb dX6_note_77 (by decide) ?_
    refine lv_istore_n (lv' := [(1, .int 0), (0, .ref o)]) hx hb dX6_note_78 rfl hl (by decide) rfl (fun ls hl => ?_)
    have J79 : ∀ (k9 : Nat) (i : Nat), i + k9 = 29 → ∀ (H : Heap) (locs : List Loc) (ls : Array Slot), g_W D A s [(o, .inr (6, [u0, u1, u2, u3, u4, u5, u6, u7, u8, u9, u10, .ref pa, .ref va, u13, u14, .ref bk, .ref bs, .int (nI d1), u18, u19, u20, u21, u22, u23, u24, u25, u26, u27, u28, u29, u30, u31, u32, u33, u34, u35])), (pa, .inl (E 0, 29, .inl (pgF S))), (va, .inl (E 1, 5, .inr (.inr (.inl (fl5 S))))), (bk, .inl (E 0, 406, .inl (ovI bb1 (29 * d1) (pgF S) i))), (bs, .inl (E 1, 70, .inr (.inr (.inl bf1))))] H locs → lv_has ls 2 [(0, .ref o), (1, .int (nI i))] → W p l e R s m args below meth c H locs 0 0 Q (F0 m 79 ls []) := by
      intro k9
      induction k9 with
      | zero =>
        intro i h9   H locs ls hw hl
        have h9 : i = 29 := h9
        subst h9
        refine lv_iload_n hx hb dX6_note_79 rfl (lv_at hl 1 rfl) ?_
        refine lv_bipush (v := 29) hx hb dX6_note_80 (by decide) ?_
        refine lv_icmp_ge (tgt := 111) hx hb dX6_note_82 (by decide) (fun c_82 => ?_) (fun c_82 => absurd (by first | exact Int32.le_refl _ | decide) c_82)
        refine lv_iconst (v := 0) hx hb dX6_note_111 (by decide) ?_
        refine lv_istore_n (lv' := [(1, .int 0), (0, .ref o)]) hx hb dX6_note_112 rfl hl (by decide) rfl (fun ls hl => ?_)
        have J113 : ∀ (k9 : Nat) (i : Nat), i + k9 = 5 → ∀ (H : Heap) (locs : List Loc) (ls : Array Slot), g_W D A s [(o, .inr (6, [u0, u1, u2, u3, u4, u5, u6, u7, u8, u9, u10, .ref pa, .ref va, u13, u14, .ref bk, .ref bs, .int (nI d1), u18, u19, u20, u21, u22, u23, u24, u25, u26, u27, u28, u29, u30, u31, u32, u33, u34, u35])), (pa, .inl (E 0, 29, .inl (pgF S))), (va, .inl (E 1, 5, .inr (.inr (.inl (fl5 S))))), (bk, .inl (E 0, 406, .inl (ovI bb1 (29 * d1) (pgF S) 29))), (bs, .inl (E 1, 70, .inr (.inr (.inl (ovF bf1 (5 * d1) (fl5 S) i)))))] H locs → lv_has ls 2 [(0, .ref o), (1, .int (nI i))] → W p l e R s m args below meth c H locs 0 0 Q (F0 m 113 ls []) := by
          intro k9
          induction k9 with
          | zero =>
            intro i h9   H locs ls hw hl
            have h9 : i = 5 := h9
            subst h9
            refine lv_iload_n hx hb dX6_note_113 rfl (lv_at hl 1 rfl) ?_
            refine lv_iconst (v := 5) hx hb dX6_note_114 (by decide) ?_
            refine lv_icmp_ge (tgt := 143) hx hb dX6_note_115 (by decide) (fun c_115 => ?_) (fun c_115 => absurd (by first | exact Int32.le_refl _ | decide) c_115)
            refine lv_aload_n hx hb dX6_note_143 rfl (lv_at hl 0 rfl) ?_
            refine lv_dup hx hb dX6_note_144 rfl ?_
            refine g_get (TT := TX6) hc hw inX6_note_X6 0 17 1 rfl rfl (by decide) rfl rfl dX6_note_145 ?_
            refine lv_iconst (v := 1) hx hb dX6_note_148 (by decide) ?_
            refine lv_iadd hx hb dX6_note_149 ?_
            refine W.eq (congrArg (fun z => F0 m 150 ls (.int z :: [.ref o])) (show ((nI d1) + 1 : Int32) = nI (d1 + 1) from (n_add rfl rfl))) ?_
            refine g_put (TT := TX6) hc hw inX6_note_X6 tyX6 tyX6_ok nmX6 0 17 1 rfl rfl (by decide) rfl rfl rfl rfl (Nat.le_of_ble_eq_true rfl) dX6_note_150 (fun H locs hw => ?_)
            have hw : g_W D A s [(o, .inr (6, [u0, u1, u2, u3, u4, u5, u6, u7, u8, u9, u10, .ref pa, .ref va, u13, u14, .ref bk, .ref bs, .int (nI (d1 + 1)), u18, u19, u20, u21, u22, u23, u24, u25, u26, u27, u28, u29, u30, u31, u32, u33, u34, u35])), (pa, .inl (E 0, 29, .inl (pgF S))), (va, .inl (E 1, 5, .inr (.inr (.inl (fl5 S))))), (bk, .inl (E 0, 406, .inl (ovI bb1 (29 * d1) (pgF S) 29))), (bs, .inl (E 1, 70, .inr (.inr (.inl (ovF bf1 (5 * d1) (fl5 S) 5)))))] H locs := hw
            exact g_vret hQ hc hw hr rfl (by subst hbb hbf hd1; rfl) dX6_note_153
          | succ k9 ih =>
            intro i h9   H locs ls hw hl
            have h9b : i < 5 := by omega
            refine lv_iload_n hx hb dX6_note_113 rfl (lv_at hl 1 rfl) ?_
            refine lv_iconst (v := 5) hx hb dX6_note_114 (by decide) ?_
            refine lv_icmp_ge (tgt := 143) hx hb dX6_note_115 (by decide) (fun c_115 => absurd c_115 (nI_ge h9b (by decide))) (fun c_115 => ?_)
            refine lv_aload_n hx hb dX6_note_118 rfl (lv_at hl 0 rfl) ?_
            refine g_get (TT := TX6) hc hw inX6_note_X6 0 16 3 rfl rfl (by decide) rfl rfl dX6_note_119 ?_
            refine lv_iconst (v := 5) hx hb dX6_note_122 (by decide) ?_
            refine lv_aload_n hx hb dX6_note_123 rfl (lv_at hl 0 rfl) ?_
            refine g_get (TT := TX6) hc hw inX6_note_X6 0 17 1 rfl rfl (by decide) rfl rfl dX6_note_124 ?_
            refine lv_imul hx hb dX6_note_127 ?_
            refine lv_iload_n hx hb dX6_note_128 rfl (lv_at hl 1 rfl) ?_
            refine lv_iadd hx hb dX6_note_129 ?_
            refine lv_aload_n hx hb dX6_note_130 rfl (lv_at hl 0 rfl) ?_
            refine g_get (TT := TX6) hc hw inX6_note_X6 0 12 5 rfl rfl (by decide) rfl rfl dX6_note_131 ?_
            refine lv_iload_n hx hb dX6_note_134 rfl (lv_at hl 1 rfl) ?_
            refine g_fld hc hw 2 i rfl rfl (by omega) (by decide) dX6_note_135 ?_
            refine g_fst hc hw 4 ((5 * d1) + i) rfl (n_add (n_mul rfl rfl) rfl) (by omega) (by decide) dX6_note_136 (fun H locs hw => ?_)
            have hw : g_W D A s [(o, .inr (6, [u0, u1, u2, u3, u4, u5, u6, u7, u8, u9, u10, .ref pa, .ref va, u13, u14, .ref bk, .ref bs, .int (nI d1), u18, u19, u20, u21, u22, u23, u24, u25, u26, u27, u28, u29, u30, u31, u32, u33, u34, u35])), (pa, .inl (E 0, 29, .inl (pgF S))), (va, .inl (E 1, 5, .inr (.inr (.inl (fl5 S))))), (bk, .inl (E 0, 406, .inl (ovI bb1 (29 * d1) (pgF S) 29))), (bs, .inl (E 1, 70, .inr (.inr (.inl (vf_upd (ovF bf1 (5 * d1) (fl5 S) i) ((5 * d1) + i) ((fl5 S) i))))))] H locs := hw
            refine lv_iinc (v := nI (i + 1)) (lv' := [(1, .int (nI (i + 1))), (0, .ref o)]) hx hb dX6_note_137 hl (k := 1) rfl (n_inc1 rfl) (by decide) rfl (fun ls hl => ?_)
            refine lv_goto (tgt := 113) hx hb dX6_note_140 (by decide) ?_
            have hw : g_W D A s [(o, .inr (6, [u0, u1, u2, u3, u4, u5, u6, u7, u8, u9, u10, .ref pa, .ref va, u13, u14, .ref bk, .ref bs, .int (nI d1), u18, u19, u20, u21, u22, u23, u24, u25, u26, u27, u28, u29, u30, u31, u32, u33, u34, u35])), (pa, .inl (E 0, 29, .inl (pgF S))), (va, .inl (E 1, 5, .inr (.inr (.inl (fl5 S))))), (bk, .inl (E 0, 406, .inl (ovI bb1 (29 * d1) (pgF S) 29))), (bs, .inl (E 1, 70, .inr (.inr (.inl (ovF bf1 (5 * d1) (fl5 S) (i + 1))))))] H locs := by
              have e4 : (vf_upd (ovF bf1 (5 * d1) (fl5 S) i) ((5 * d1) + i) ((fl5 S) i)) = (ovF bf1 (5 * d1) (fl5 S) (i + 1)) := by exact ovF_s _ _ rfl
              rw [e4] at hw
              exact hw
            exact ih (i + 1) (by omega)   _ _ _ hw (lv_sub hl [1, 0] rfl)
        have hw : g_W D A s [(o, .inr (6, [u0, u1, u2, u3, u4, u5, u6, u7, u8, u9, u10, .ref pa, .ref va, u13, u14, .ref bk, .ref bs, .int (nI d1), u18, u19, u20, u21, u22, u23, u24, u25, u26, u27, u28, u29, u30, u31, u32, u33, u34, u35])), (pa, .inl (E 0, 29, .inl (pgF S))), (va, .inl (E 1, 5, .inr (.inr (.inl (fl5 S))))), (bk, .inl (E 0, 406, .inl (ovI bb1 (29 * d1) (pgF S) 29))), (bs, .inl (E 1, 70, .inr (.inr (.inl (ovF bf1 (5 * d1) (fl5 S) 0)))))] H locs := by
          have e4 : bf1 = (ovF bf1 (5 * d1) (fl5 S) 0) := by exact ovF_0 _ _ _
          rw [e4] at hw
          exact hw
        exact J113 5 0 (by omega)   _ _ _ hw (lv_sub hl [1, 0] rfl)
      | succ k9 ih =>
        intro i h9   H locs ls hw hl
        have h9b : i < 29 := by omega
        refine lv_iload_n hx hb dX6_note_79 rfl (lv_at hl 1 rfl) ?_
        refine lv_bipush (v := 29) hx hb dX6_note_80 (by decide) ?_
        refine lv_icmp_ge (tgt := 111) hx hb dX6_note_82 (by decide) (fun c_82 => absurd c_82 (nI_ge h9b (by decide))) (fun c_82 => ?_)
        refine lv_aload_n hx hb dX6_note_85 rfl (lv_at hl 0 rfl) ?_
        refine g_get (TT := TX6) hc hw inX6_note_X6 0 15 2 rfl rfl (by decide) rfl rfl dX6_note_86 ?_
        refine lv_bipush (v := 29) hx hb dX6_note_89 (by decide) ?_
        refine lv_aload_n hx hb dX6_note_91 rfl (lv_at hl 0 rfl) ?_
        refine g_get (TT := TX6) hc hw inX6_note_X6 0 17 1 rfl rfl (by decide) rfl rfl dX6_note_92 ?_
        refine lv_imul hx hb dX6_note_95 ?_
        refine lv_iload_n hx hb dX6_note_96 rfl (lv_at hl 1 rfl) ?_
        refine lv_iadd hx hb dX6_note_97 ?_
        refine lv_aload_n hx hb dX6_note_98 rfl (lv_at hl 0 rfl) ?_
        refine g_get (TT := TX6) hc hw inX6_note_X6 0 11 4 rfl rfl (by decide) rfl rfl dX6_note_99 ?_
        refine lv_iload_n hx hb dX6_note_102 rfl (lv_at hl 1 rfl) ?_
        refine g_ild hc hw 1 i rfl rfl (by omega) (by decide) dX6_note_103 ?_
        refine g_ist hc hw 3 ((29 * d1) + i) rfl (n_add (n_mul rfl rfl) rfl) (by omega) (by decide) dX6_note_104 (fun H locs hw => ?_)
        have hw : g_W D A s [(o, .inr (6, [u0, u1, u2, u3, u4, u5, u6, u7, u8, u9, u10, .ref pa, .ref va, u13, u14, .ref bk, .ref bs, .int (nI d1), u18, u19, u20, u21, u22, u23, u24, u25, u26, u27, u28, u29, u30, u31, u32, u33, u34, u35])), (pa, .inl (E 0, 29, .inl (pgF S))), (va, .inl (E 1, 5, .inr (.inr (.inl (fl5 S))))), (bk, .inl (E 0, 406, .inl (upd (ovI bb1 (29 * d1) (pgF S) i) ((29 * d1) + i) ((pgF S) i)))), (bs, .inl (E 1, 70, .inr (.inr (.inl bf1))))] H locs := hw
        refine lv_iinc (v := nI (i + 1)) (lv' := [(1, .int (nI (i + 1))), (0, .ref o)]) hx hb dX6_note_105 hl (k := 1) rfl (n_inc1 rfl) (by decide) rfl (fun ls hl => ?_)
        refine lv_goto (tgt := 79) hx hb dX6_note_108 (by decide) ?_
        have hw : g_W D A s [(o, .inr (6, [u0, u1, u2, u3, u4, u5, u6, u7, u8, u9, u10, .ref pa, .ref va, u13, u14, .ref bk, .ref bs, .int (nI d1), u18, u19, u20, u21, u22, u23, u24, u25, u26, u27, u28, u29, u30, u31, u32, u33, u34, u35])), (pa, .inl (E 0, 29, .inl (pgF S))), (va, .inl (E 1, 5, .inr (.inr (.inl (fl5 S))))), (bk, .inl (E 0, 406, .inl (ovI bb1 (29 * d1) (pgF S) (i + 1)))), (bs, .inl (E 1, 70, .inr (.inr (.inl bf1))))] H locs := by
          have e3 : (upd (ovI bb1 (29 * d1) (pgF S) i) ((29 * d1) + i) ((pgF S) i)) = (ovI bb1 (29 * d1) (pgF S) (i + 1)) := by exact ovI_s _ _ rfl
          rw [e3] at hw
          exact hw
        exact ih (i + 1) (by omega)   _ _ _ hw (lv_sub hl [1, 0] rfl)
    have hw : g_W D A s [(o, .inr (6, [u0, u1, u2, u3, u4, u5, u6, u7, u8, u9, u10, .ref pa, .ref va, u13, u14, .ref bk, .ref bs, .int (nI d1), u18, u19, u20, u21, u22, u23, u24, u25, u26, u27, u28, u29, u30, u31, u32, u33, u34, u35])), (pa, .inl (E 0, 29, .inl (pgF S))), (va, .inl (E 1, 5, .inr (.inr (.inl (fl5 S))))), (bk, .inl (E 0, 406, .inl (ovI bb1 (29 * d1) (pgF S) 0))), (bs, .inl (E 1, 70, .inr (.inr (.inl bf1))))] H locs := by
      have e3 : bb1 = (ovI bb1 (29 * d1) (pgF S) 0) := by exact ovI_0 _ _ _
      rw [e3] at hw
      exact hw
    exact J79 29 0 (by omega)   _ _ _ hw (lv_sub hl [1, 0] rfl)
  refine lv_icmp_ne (tgt := 77) hx hb dX6_note_6 (by decide) (fun c_6 => ?_) (fun c_6 => ?_)
  · skip
    have n_6 : ¬ d = 14 := nf_neT rfl rfl (by omega) (by omega) c_6
    exact J77 bb bf d (if_neg n_6) (if_neg n_6) (by omega) _ _ _ hw (lv_sub hl [0] rfl)
  · skip
    have n_6 : d = 14 := nf_neF rfl rfl (by omega) (by omega) c_6
    refine lv_iconst (v := 0) hx hb dX6_note_9 (by decide) ?_
    refine lv_istore_n (lv' := [(1, .int 0), (0, .ref o)]) hx hb dX6_note_10 rfl hl (by decide) rfl (fun ls hl => ?_)
    have J11 : ∀ (k9 : Nat) (i : Nat), i + k9 = 377 → ∀ (H : Heap) (locs : List Loc) (ls : Array Slot), g_W D A s [(o, .inr (6, [u0, u1, u2, u3, u4, u5, u6, u7, u8, u9, u10, .ref pa, .ref va, u13, u14, .ref bk, .ref bs, .int (nI d), u18, u19, u20, u21, u22, u23, u24, u25, u26, u27, u28, u29, u30, u31, u32, u33, u34, u35])), (pa, .inl (E 0, 29, .inl (pgF S))), (va, .inl (E 1, 5, .inr (.inr (.inl (fl5 S))))), (bk, .inl (E 0, 406, .inl (cpI (fun j => bb (j + 29)) bb i))), (bs, .inl (E 1, 70, .inr (.inr (.inl bf))))] H locs → lv_has ls 2 [(0, .ref o), (1, .int (nI i))] → W p l e R s m args below meth c H locs 0 0 Q (F0 m 11 ls []) := by
      intro k9
      induction k9 with
      | zero =>
        intro i h9   H locs ls hw hl
        have h9 : i = 377 := h9
        subst h9
        refine lv_iload_n hx hb dX6_note_11 rfl (lv_at hl 1 rfl) ?_
        refine lv_sipush (v := 377) hx hb dX6_note_12 (by decide) ?_
        refine lv_icmp_ge (tgt := 39) hx hb dX6_note_15 (by decide) (fun c_15 => ?_) (fun c_15 => absurd (by first | exact Int32.le_refl _ | decide) c_15)
        refine lv_iconst (v := 0) hx hb dX6_note_39 (by decide) ?_
        refine lv_istore_n (lv' := [(1, .int 0), (0, .ref o)]) hx hb dX6_note_40 rfl hl (by decide) rfl (fun ls hl => ?_)
        have J41 : ∀ (k9 : Nat) (i : Nat), i + k9 = 65 → ∀ (H : Heap) (locs : List Loc) (ls : Array Slot), g_W D A s [(o, .inr (6, [u0, u1, u2, u3, u4, u5, u6, u7, u8, u9, u10, .ref pa, .ref va, u13, u14, .ref bk, .ref bs, .int (nI d), u18, u19, u20, u21, u22, u23, u24, u25, u26, u27, u28, u29, u30, u31, u32, u33, u34, u35])), (pa, .inl (E 0, 29, .inl (pgF S))), (va, .inl (E 1, 5, .inr (.inr (.inl (fl5 S))))), (bk, .inl (E 0, 406, .inl (cpI (fun j => bb (j + 29)) bb 377))), (bs, .inl (E 1, 70, .inr (.inr (.inl (cpF (fun j => bf (j + 5)) bf i)))))] H locs → lv_has ls 2 [(0, .ref o), (1, .int (nI i))] → W p l e R s m args below meth c H locs 0 0 Q (F0 m 41 ls []) := by
          intro k9
          induction k9 with
          | zero =>
            intro i h9   H locs ls hw hl
            have h9 : i = 65 := h9
            subst h9
            refine lv_iload_n hx hb dX6_note_41 rfl (lv_at hl 1 rfl) ?_
            refine lv_bipush (v := 65) hx hb dX6_note_42 (by decide) ?_
            refine lv_icmp_ge (tgt := 67) hx hb dX6_note_44 (by decide) (fun c_44 => ?_) (fun c_44 => absurd (by first | exact Int32.le_refl _ | decide) c_44)
            refine lv_aload_n hx hb dX6_note_67 rfl (lv_at hl 0 rfl) ?_
            refine lv_dup hx hb dX6_note_68 rfl ?_
            refine g_get (TT := TX6) hc hw inX6_note_X6 0 17 1 rfl rfl (by decide) rfl rfl dX6_note_69 ?_
            refine lv_iconst (v := 1) hx hb dX6_note_72 (by decide) ?_
            refine lv_isub hx hb dX6_note_73 ?_
            refine W.eq (congrArg (fun z => F0 m 74 ls (.int z :: [.ref o])) (show ((nI d) - 1 : Int32) = nI 13 from (by rw [n_6]; rfl))) ?_
            refine g_put (TT := TX6) hc hw inX6_note_X6 tyX6 tyX6_ok nmX6 0 17 1 rfl rfl (by decide) rfl rfl rfl rfl (Nat.le_of_ble_eq_true rfl) dX6_note_74 (fun H locs hw => ?_)
            have hw : g_W D A s [(o, .inr (6, [u0, u1, u2, u3, u4, u5, u6, u7, u8, u9, u10, .ref pa, .ref va, u13, u14, .ref bk, .ref bs, .int (nI 13), u18, u19, u20, u21, u22, u23, u24, u25, u26, u27, u28, u29, u30, u31, u32, u33, u34, u35])), (pa, .inl (E 0, 29, .inl (pgF S))), (va, .inl (E 1, 5, .inr (.inr (.inl (fl5 S))))), (bk, .inl (E 0, 406, .inl (cpI (fun j => bb (j + 29)) bb 377))), (bs, .inl (E 1, 70, .inr (.inr (.inl (cpF (fun j => bf (j + 5)) bf 65)))))] H locs := hw
            exact J77 (cpI (fun j => bb (j + 29)) bb 377) (cpF (fun j => bf (j + 5)) bf 65) 13 (if_pos n_6) (if_pos n_6) (by omega) _ _ _ hw (lv_sub hl [0] rfl)
          | succ k9 ih =>
            intro i h9   H locs ls hw hl
            have h9b : i < 65 := by omega
            refine lv_iload_n hx hb dX6_note_41 rfl (lv_at hl 1 rfl) ?_
            refine lv_bipush (v := 65) hx hb dX6_note_42 (by decide) ?_
            refine lv_icmp_ge (tgt := 67) hx hb dX6_note_44 (by decide) (fun c_44 => absurd c_44 (nI_ge h9b (by decide))) (fun c_44 => ?_)
            refine lv_aload_n hx hb dX6_note_47 rfl (lv_at hl 0 rfl) ?_
            refine g_get (TT := TX6) hc hw inX6_note_X6 0 16 3 rfl rfl (by decide) rfl rfl dX6_note_48 ?_
            refine lv_iload_n hx hb dX6_note_51 rfl (lv_at hl 1 rfl) ?_
            refine lv_aload_n hx hb dX6_note_52 rfl (lv_at hl 0 rfl) ?_
            refine g_get (TT := TX6) hc hw inX6_note_X6 0 16 3 rfl rfl (by decide) rfl rfl dX6_note_53 ?_
            refine lv_iload_n hx hb dX6_note_56 rfl (lv_at hl 1 rfl) ?_
            refine lv_iconst (v := 5) hx hb dX6_note_57 (by decide) ?_
            refine lv_iadd hx hb dX6_note_58 ?_
            refine g_fld hc hw 4 (i + 5) rfl (n_add rfl rfl) (by omega) (by decide) dX6_note_59 ?_
            refine g_fst hc hw 4 i rfl rfl (by omega) (by decide) dX6_note_60 (fun H locs hw => ?_)
            have hw : g_W D A s [(o, .inr (6, [u0, u1, u2, u3, u4, u5, u6, u7, u8, u9, u10, .ref pa, .ref va, u13, u14, .ref bk, .ref bs, .int (nI d), u18, u19, u20, u21, u22, u23, u24, u25, u26, u27, u28, u29, u30, u31, u32, u33, u34, u35])), (pa, .inl (E 0, 29, .inl (pgF S))), (va, .inl (E 1, 5, .inr (.inr (.inl (fl5 S))))), (bk, .inl (E 0, 406, .inl (cpI (fun j => bb (j + 29)) bb 377))), (bs, .inl (E 1, 70, .inr (.inr (.inl (vf_upd (cpF (fun j => bf (j + 5)) bf i) i ((cpF (fun j => bf (j + 5)) bf i) (i + 5)))))))] H locs := hw
            refine lv_iinc (v := nI (i + 1)) (lv' := [(1, .int (nI (i + 1))), (0, .ref o)]) hx hb dX6_note_61 hl (k := 1) rfl (n_inc1 rfl) (by decide) rfl (fun ls hl => ?_)
            refine lv_goto (tgt := 41) hx hb dX6_note_64 (by decide) ?_
            have hw : g_W D A s [(o, .inr (6, [u0, u1, u2, u3, u4, u5, u6, u7, u8, u9, u10, .ref pa, .ref va, u13, u14, .ref bk, .ref bs, .int (nI d), u18, u19, u20, u21, u22, u23, u24, u25, u26, u27, u28, u29, u30, u31, u32, u33, u34, u35])), (pa, .inl (E 0, 29, .inl (pgF S))), (va, .inl (E 1, 5, .inr (.inr (.inl (fl5 S))))), (bk, .inl (E 0, 406, .inl (cpI (fun j => bb (j + 29)) bb 377))), (bs, .inl (E 1, 70, .inr (.inr (.inl (cpF (fun j => bf (j + 5)) bf (i + 1))))))] H locs := by
              have e4 : (vf_upd (cpF (fun j => bf (j + 5)) bf i) i ((cpF (fun j => bf (j + 5)) bf i) (i + 5))) = (cpF (fun j => bf (j + 5)) bf (i + 1)) := by exact cpF_s bf (cpF_far _ bf (by omega))
              rw [e4] at hw
              exact hw
            exact ih (i + 1) (by omega)   _ _ _ hw (lv_sub hl [1, 0] rfl)
        have hw : g_W D A s [(o, .inr (6, [u0, u1, u2, u3, u4, u5, u6, u7, u8, u9, u10, .ref pa, .ref va, u13, u14, .ref bk, .ref bs, .int (nI d), u18, u19, u20, u21, u22, u23, u24, u25, u26, u27, u28, u29, u30, u31, u32, u33, u34, u35])), (pa, .inl (E 0, 29, .inl (pgF S))), (va, .inl (E 1, 5, .inr (.inr (.inl (fl5 S))))), (bk, .inl (E 0, 406, .inl (cpI (fun j => bb (j + 29)) bb 377))), (bs, .inl (E 1, 70, .inr (.inr (.inl (cpF (fun j => bf (j + 5)) bf 0)))))] H locs := by
          have e4 : bf = (cpF (fun j => bf (j + 5)) bf 0) := by exact cpF_0 _ bf
          rw [e4] at hw
          exact hw
        exact J41 65 0 (by omega)   _ _ _ hw (lv_sub hl [1, 0] rfl)
      | succ k9 ih =>
        intro i h9   H locs ls hw hl
        have h9b : i < 377 := by omega
        refine lv_iload_n hx hb dX6_note_11 rfl (lv_at hl 1 rfl) ?_
        refine lv_sipush (v := 377) hx hb dX6_note_12 (by decide) ?_
        refine lv_icmp_ge (tgt := 39) hx hb dX6_note_15 (by decide) (fun c_15 => absurd c_15 (nI_ge h9b (by decide))) (fun c_15 => ?_)
        refine lv_aload_n hx hb dX6_note_18 rfl (lv_at hl 0 rfl) ?_
        refine g_get (TT := TX6) hc hw inX6_note_X6 0 15 2 rfl rfl (by decide) rfl rfl dX6_note_19 ?_
        refine lv_iload_n hx hb dX6_note_22 rfl (lv_at hl 1 rfl) ?_
        refine lv_aload_n hx hb dX6_note_23 rfl (lv_at hl 0 rfl) ?_
        refine g_get (TT := TX6) hc hw inX6_note_X6 0 15 2 rfl rfl (by decide) rfl rfl dX6_note_24 ?_
        refine lv_iload_n hx hb dX6_note_27 rfl (lv_at hl 1 rfl) ?_
        refine lv_bipush (v := 29) hx hb dX6_note_28 (by decide) ?_
        refine lv_iadd hx hb dX6_note_30 ?_
        refine g_ild hc hw 3 (i + 29) rfl (n_add rfl rfl) (by omega) (by decide) dX6_note_31 ?_
        refine g_ist hc hw 3 i rfl rfl (by omega) (by decide) dX6_note_32 (fun H locs hw => ?_)
        have hw : g_W D A s [(o, .inr (6, [u0, u1, u2, u3, u4, u5, u6, u7, u8, u9, u10, .ref pa, .ref va, u13, u14, .ref bk, .ref bs, .int (nI d), u18, u19, u20, u21, u22, u23, u24, u25, u26, u27, u28, u29, u30, u31, u32, u33, u34, u35])), (pa, .inl (E 0, 29, .inl (pgF S))), (va, .inl (E 1, 5, .inr (.inr (.inl (fl5 S))))), (bk, .inl (E 0, 406, .inl (upd (cpI (fun j => bb (j + 29)) bb i) i ((cpI (fun j => bb (j + 29)) bb i) (i + 29))))), (bs, .inl (E 1, 70, .inr (.inr (.inl bf))))] H locs := hw
        refine lv_iinc (v := nI (i + 1)) (lv' := [(1, .int (nI (i + 1))), (0, .ref o)]) hx hb dX6_note_33 hl (k := 1) rfl (n_inc1 rfl) (by decide) rfl (fun ls hl => ?_)
        refine lv_goto (tgt := 11) hx hb dX6_note_36 (by decide) ?_
        have hw : g_W D A s [(o, .inr (6, [u0, u1, u2, u3, u4, u5, u6, u7, u8, u9, u10, .ref pa, .ref va, u13, u14, .ref bk, .ref bs, .int (nI d), u18, u19, u20, u21, u22, u23, u24, u25, u26, u27, u28, u29, u30, u31, u32, u33, u34, u35])), (pa, .inl (E 0, 29, .inl (pgF S))), (va, .inl (E 1, 5, .inr (.inr (.inl (fl5 S))))), (bk, .inl (E 0, 406, .inl (cpI (fun j => bb (j + 29)) bb (i + 1)))), (bs, .inl (E 1, 70, .inr (.inr (.inl bf))))] H locs := by
          have e3 : (upd (cpI (fun j => bb (j + 29)) bb i) i ((cpI (fun j => bb (j + 29)) bb i) (i + 29))) = (cpI (fun j => bb (j + 29)) bb (i + 1)) := by exact cpI_s bb (cpI_far _ bb (by omega))
          rw [e3] at hw
          exact hw
        exact ih (i + 1) (by omega)   _ _ _ hw (lv_sub hl [1, 0] rfl)
    have hw : g_W D A s [(o, .inr (6, [u0, u1, u2, u3, u4, u5, u6, u7, u8, u9, u10, .ref pa, .ref va, u13, u14, .ref bk, .ref bs, .int (nI d), u18, u19, u20, u21, u22, u23, u24, u25, u26, u27, u28, u29, u30, u31, u32, u33, u34, u35])), (pa, .inl (E 0, 29, .inl (pgF S))), (va, .inl (E 1, 5, .inr (.inr (.inl (fl5 S))))), (bk, .inl (E 0, 406, .inl (cpI (fun j => bb (j + 29)) bb 0))), (bs, .inl (E 1, 70, .inr (.inr (.inl bf))))] H locs := by
      have e3 : bb = (cpI (fun j => bb (j + 29)) bb 0) := by exact cpI_0 _ bb
      rw [e3] at hw
      exact hw
    exact J11 377 0 (by omega)   _ _ _ hw (lv_sub hl [1, 0] rfl)

theorem dX6_tick_0 : decode cX6_tick 0 = .ok (.aload_n 0, 1) := by decide +kernel
theorem dX6_tick_1 : decode cX6_tick 1 = .ok (.iconst 0, 1) := by decide +kernel
theorem dX6_tick_2 : decode cX6_tick 2 = .ok (.putfield 88, 3) := by decide +kernel
theorem dX6_tick_5 : decode cX6_tick 5 = .ok (.iload_n 1, 1) := by decide +kernel
theorem dX6_tick_6 : decode cX6_tick 6 = .ok (.i2l, 1) := by decide +kernel
theorem dX6_tick_7 : decode cX6_tick 7 = .ok (.lconst 1, 1) := by decide +kernel
theorem dX6_tick_8 : decode cX6_tick 8 = .ok (.ldc2_w 229, 3) := by decide +kernel
theorem dX6_tick_11 : decode cX6_tick 11 = .ok (.invokestatic 94, 3) := by decide +kernel
theorem dX6_tick_14 : decode cX6_tick 14 = .ok (.ifCond .ne 6, 3) := by decide +kernel
theorem dX6_tick_17 : decode cX6_tick 17 = .ok (.bipush (-2), 2) := by decide +kernel
theorem dX6_tick_19 : decode cX6_tick 19 = .ok (.ireturn, 1) := by decide +kernel
set_option maxRecDepth 20000 in
theorem ggX6_tick_X6_in : GoodIn wsX6_tick wsX6_in := goodIn_r _ [8] rfl (by decide +kernel)
set_option maxRecDepth 20000 in
theorem gX6_tick_X6_in : GoodIn wsX6_tick (va_wsS RX6 94 yX6_in wsX6_in) := goodIn_app (goodIn_of _ (by decide +kernel)) ggX6_tick_X6_in
theorem inX6_tick_X6 : ∀ w ∈ u_ws RX6 TX6 36, w ∈ wsX6_tick := fun w h => List.mem_cons_of_mem _ (List.mem_append_right _ h)
set_option maxRecDepth 100000 in
set_option maxHeartbeats 4000000 in
theorem m_X6_tick_out {l : Launch} {D : va_G} {E : Nat → ClassId} {T : Nat → Nat} (o : Nat) (u0 : Value) (u1 : Value) (u2 : Value) (u3 : Value) (u4 : Value) (u5 : Value) (u6 : Value) (u7 : Value) (u8 : Value) (u9 : Value) (u10 : Value) (u11 : Value) (u12 : Value) (u13 : Value) (u14 : Value) (u15 : Value) (u16 : Value) (u17 : Value) (u18 : Value) (u19 : Value) (u20 : Value) (u21 : Value) (u22 : Value) (u23 : Value) (u24 : Value) (u25 : Value) (u26 : Value) (u27 : Value) (u28 : Value) (u29 : Value) (u30 : Value) (u31 : Value) (u32 : Value) (u33 : Value) (u34 : Value) (u35 : Value) (v : Int32) (ho : outB v 1 99 = true) : g_M l D E T yX6_tick wsX6_tick 1 25 [.ref o, .int v] [(o, .inr (6, [u0, u1, u2, u3, u4, u5, u6, u7, u8, u9, u10, u11, u12, u13, u14, u15, u16, u17, u18, u19, u20, u21, u22, u23, u24, u25, u26, u27, u28, u29, u30, u31, u32, u33, u34, u35]))] [(o, .inr (6, [.int 0, u1, u2, u3, u4, u5, u6, u7, u8, u9, u10, u11, u12, u13, u14, u15, u16, u17, u18, u19, u20, u21, u22, u23, u24, u25, u26, u27, u28, u29, u30, u31, u32, u33, u34, u35]))] (some (.int (-2))) := by
  refine g_M.of (cc := cX6_tick) (nL := 2) (ret := (some .int)) (own := RX6) (lv := [(0, .ref o), (1, .int v)]) (by decide) rfl rfl (Nat.le_of_ble_eq_true rfl) rfl ?_
  intro p e R s m args below meth c A Q H locs ls hR hQ hc hr hw hl
  have hx := hc.1
  have hb := hc.2.1
  have hts := hc.2.2.2.1
  have hown := hc.2.2.2.2.1
  refine lv_aload_n hx hb dX6_tick_0 rfl (lv_at hl 0 rfl) ?_
  refine lv_iconst (v := 0) hx hb dX6_tick_1 (by decide) ?_
  refine g_put (TT := TX6) hc hw inX6_tick_X6 tyX6 tyX6_ok nmX6 0 0 1 rfl rfl (by decide) rfl rfl rfl rfl (Nat.le_of_ble_eq_true rfl) dX6_tick_2 (fun H locs hw => ?_)
  have hw : g_W D A s [(o, .inr (6, [.int 0, u1, u2, u3, u4, u5, u6, u7, u8, u9, u10, u11, u12, u13, u14, u15, u16, u17, u18, u19, u20, u21, u22, u23, u24, u25, u26, u27, u28, u29, u30, u31, u32, u33, u34, u35]))] H locs := hw
  refine lv_iload_n hx hb dX6_tick_5 rfl (lv_at hl 1 rfl) ?_
  refine lv_i2l hx hb dX6_tick_6 rfl ?_
  refine lv_lconst (v := 1) hx hb dX6_tick_7 (by decide) ?_
  refine lv_ldc2 (v := 99) hx hb hown (hts _ (List.mem_of_getElem? (i := 2) rfl)) dX6_tick_8 ?_
  refine g_cS (As := [.long v.toInt64, .long 1, .long 99]) (n := 3) (rest := []) (wc := []) (w1 := []) (bytes := cX6_in) (maxL := 6) (ret := (some .boolean)) hc hw hl.1 (m_X6_in (l := l) (D := D) (E := E) (T := T) v.toInt64 1 99) gX6_tick_X6_in rfl (by decide +kernel) (by rw [hR]; exact ⟨Nat.le_of_ble_eq_true rfl, Nat.le_of_ble_eq_true rfl⟩) [] (by decide) rfl [] rfl rfl rfl rfl (Nat.le_of_ble_eq_true rfl) dX6_tick_11 ⟨Nat.zero_le _, Nat.zero_le _⟩ (fun H locs hw => ?_)
  have hw : g_W D A s [(o, .inr (6, [.int 0, u1, u2, u3, u4, u5, u6, u7, u8, u9, u10, u11, u12, u13, u14, u15, u16, u17, u18, u19, u20, u21, u22, u23, u24, u25, u26, u27, u28, u29, u30, u31, u32, u33, u34, u35]))] H locs := hw
  refine W.eq (congrArg (fun z => F0 m 14 ls (.int z :: [])) (show (b2i (inL v.toInt64 1 99) : Int32) = 0 from (congrArg b2i (in_o (a := 1) (b := 99) ho (by decide) (by decide))))) ?_
  refine lv_if_ne (tgt := 20) hx hb dX6_tick_14 (by decide) (fun c_14 => absurd c_14 (by decide)) (fun c_14 => ?_)
  refine lv_bipush (v := (-2)) hx hb dX6_tick_17 (by decide) ?_
  exact g_iret hQ hc hw hr rfl rfl dX6_tick_19

theorem dX6_tick_20 : decode cX6_tick 20 = .ok (.aload_n 0, 1) := by decide +kernel
theorem dX6_tick_21 : decode cX6_tick 21 = .ok (.invokevirtual 231, 3) := by decide +kernel
theorem dX6_tick_24 : decode cX6_tick 24 = .ok (.aload_n 0, 1) := by decide +kernel
theorem dX6_tick_25 : decode cX6_tick 25 = .ok (.aload_n 0, 1) := by decide +kernel
theorem dX6_tick_26 : decode cX6_tick 26 = .ok (.getfield 25, 3) := by decide +kernel
theorem dX6_tick_29 : decode cX6_tick 29 = .ok (.aload_n 0, 1) := by decide +kernel
theorem dX6_tick_30 : decode cX6_tick 30 = .ok (.getfield 28, 3) := by decide +kernel
theorem dX6_tick_33 : decode cX6_tick 33 = .ok (.iload_n 1, 1) := by decide +kernel
theorem dX6_tick_34 : decode cX6_tick 34 = .ok (.invokevirtual 234, 3) := by decide +kernel
theorem dX6_tick_37 : decode cX6_tick 37 = .ok (.aload_n 0, 1) := by decide +kernel
theorem dX6_tick_38 : decode cX6_tick 38 = .ok (.getfield 25, 3) := by decide +kernel
theorem dX6_tick_41 : decode cX6_tick 41 = .ok (.iconst 1, 1) := by decide +kernel
theorem dX6_tick_42 : decode cX6_tick 42 = .ok (.iaload, 1) := by decide +kernel
theorem dX6_tick_43 : decode cX6_tick 43 = .ok (.ireturn, 1) := by decide +kernel
set_option maxRecDepth 20000 in
theorem ggX6_tick_X6_note : GoodIn wsX6_tick wsX6_note := goodIn_r _ [12, 13, 14, 15, 3, 4, 95, 96, 97, 98, 99, 100, 101, 102, 103, 104, 105, 106, 107, 108, 109, 110, 111, 112, 113, 114, 115, 116, 117, 118, 119, 120, 121, 122, 123, 124, 125, 126, 127, 128, 129, 130] rfl (by decide +kernel)
set_option maxRecDepth 20000 in
theorem gX6_tick_X6_note : GoodIn wsX6_tick (wsV RX6 231 RX6 yX6_note wsX6_note) := goodIn_app (goodIn_of _ (by decide +kernel)) ggX6_tick_X6_note
set_option maxRecDepth 20000 in
theorem ggX6_tick_X6_tickMany : GoodIn wsX6_tick wsX6_tickMany := goodIn_r _ [19, 20, 21, 22, 7, 23, 24, 25, 26, 27, 28, 29, 30, 31, 32, 33, 34, 35, 36, 37, 38, 39, 40, 41, 42, 43, 44, 45, 46, 47, 48, 49, 50, 51, 52, 53, 54, 55, 56, 57, 58, 59, 60, 61, 62, 63, 64, 65, 66, 67, 68, 69, 70, 71, 72, 73, 74, 75, 76, 77, 78, 79, 80, 81, 82, 83, 84, 85, 86, 87, 88, 89, 90, 91, 92, 93, 94, 95, 96, 97, 98, 99, 100, 101, 102, 103, 104, 105, 106, 107, 108, 109, 110, 111, 112, 113, 114, 115, 116, 117, 118, 119, 120, 121, 122, 123, 124, 125, 126, 127, 128, 129, 130] rfl (by decide +kernel)
set_option maxRecDepth 20000 in
theorem gX6_tick_X6_tickMany : GoodIn wsX6_tick (wsV RX6 234 RX6 yX6_tickMany wsX6_tickMany) := goodIn_app (goodIn_of _ (by decide +kernel)) ggX6_tick_X6_tickMany
set_option maxRecDepth 100000 in
set_option maxHeartbeats 4000000 in
theorem m_X6_tick {l : Launch} {D : va_G} {E : Nat → ClassId} {T : Nat → Nat} (o : Nat) (xa : Nat) (fa : Nat) (wa : Nat) (la : Nat) (ta : Nat) (ma : Nat) (sa : Nat) (nw : Nat) (nf : Nat) (pa : Nat) (va : Nat) (bk : Nat) (bs : Nat) (d : Nat) (B : Nat) (u0 : Value) (u1 : Value) (u2 : Value) (u7 : Value) (u8 : Value) (u9 : Value) (u10 : Value) (u13 : Value) (u14 : Value) (u18 : Value) (u19 : Value) (u20 : Value) (u21 : Value) (u22 : Value) (u23 : Value) (u24 : Value) (u25 : Value) (u26 : Value) (u34 : Value) (fl : Nat → Int32) (S : TS) (K : RJ) (bb : Nat → Int32) (bf : Nat → UInt32) (n : Nat) (hok : OkS B S) (hd9 : d ≤ 14) (hB9 : B + 99 < 2 ^ 31) (hnw : nw ≤ 6) (hnf : nf ≤ 6) (hn1 : 1 ≤ n) (hn : n ≤ 99) : g_M l D E T yX6_tick wsX6_tick 7 173 [.ref o, .int (nI n)] [(o, .inr (6, [u0, u1, u2, .ref xa, .int (nI nw), .int (nI nf), .ref fa, u7, u8, u9, u10, .ref pa, .ref va, u13, u14, .ref bk, .ref bs, .int (nI d), u18, u19, u20, u21, u22, u23, u24, u25, u26, .ref wa, .ref la, .ref ta, .int (rS K), .int (rN K), .float (rH K), .ref ma, u34, .ref sa])), (xa, .inl (E 0, 12, .inl (g_tv 0))), (fa, .inl (E 0, 18, .inl fl)), (wa, .inl (E 0, 3, .inl (rW K))), (la, .inl (E 1, 4, .inr (.inr (.inl (rP K))))), (ta, .inl (E 1, 4, .inr (.inr (.inl (rT K))))), (ma, .inl (E 1, 3, .inr (.inr (.inl (rM K))))), (sa, .inl (E 0, 9, .inl (g_tv 1))), (pa, .inl (E 0, 29, .inl (pgF S))), (va, .inl (E 1, 5, .inr (.inr (.inl (fl5 S))))), (bk, .inl (E 0, 406, .inl bb)), (bs, .inl (E 1, 70, .inr (.inr (.inl bf))))] [(o, .inr (6, [.int 0, u1, u2, .ref xa, .int (nI nw), .int (nI nf), .ref fa, u7, u8, u9, u10, .ref pa, .ref va, u13, u14, .ref bk, .ref bs, .int (nI (min d 13 + 1)), u18, u19, u20, u21, u22, u23, u24, u25, u26, .ref wa, .ref la, .ref ta, .int (rS (rjN nw nf fl (x3F 0 0 0) S K n)), .int (rN (rjN nw nf fl (x3F 0 0 0) S K n)), .float (rH (rjN nw nf fl (x3F 0 0 0) S K n)), .ref ma, u34, .ref sa])), (xa, .inl (E 0, 12, .inl (g_tv 0))), (fa, .inl (E 0, 18, .inl fl)), (wa, .inl (E 0, 3, .inl (rW (rjN nw nf fl (x3F 0 0 0) S K n)))), (la, .inl (E 1, 4, .inr (.inr (.inl (rP (rjN nw nf fl (x3F 0 0 0) S K n)))))), (ta, .inl (E 1, 4, .inr (.inr (.inl (rT (rjN nw nf fl (x3F 0 0 0) S K n)))))), (ma, .inl (E 1, 3, .inr (.inr (.inl (rM (rjN nw nf fl (x3F 0 0 0) S K n)))))), (sa, .inl (E 0, 9, .inl (g_tv 1))), (pa, .inl (E 0, 29, .inl (pgF (tkN nw nf fl (x3F 0 0 0) S n)))), (va, .inl (E 1, 5, .inr (.inr (.inl (fl5 (tkN nw nf fl (x3F 0 0 0) S n)))))), (bk, .inl (E 0, 406, .inl (noI d bb S))), (bs, .inl (E 1, 70, .inr (.inr (.inl (noF d bf S)))))] (some (.int (sM (tkN nw nf fl (x3F 0 0 0) S n)))) := by
  refine g_M.of (cc := cX6_tick) (nL := 2) (ret := (some .int)) (own := RX6) (lv := [(0, .ref o), (1, .int (nI n))]) (by decide) rfl rfl (Nat.le_of_ble_eq_true rfl) rfl ?_
  intro p e R s m args below meth c A Q H locs ls hR hQ hc hr hw hl
  have hx := hc.1
  have hb := hc.2.1
  have hts := hc.2.2.2.1
  have hown := hc.2.2.2.2.1
  refine lv_aload_n hx hb dX6_tick_0 rfl (lv_at hl 0 rfl) ?_
  refine lv_iconst (v := 0) hx hb dX6_tick_1 (by decide) ?_
  refine g_put (TT := TX6) hc hw inX6_tick_X6 tyX6 tyX6_ok nmX6 0 0 1 rfl rfl (by decide) rfl rfl rfl rfl (Nat.le_of_ble_eq_true rfl) dX6_tick_2 (fun H locs hw => ?_)
  have hw : g_W D A s [(o, .inr (6, [.int 0, u1, u2, .ref xa, .int (nI nw), .int (nI nf), .ref fa, u7, u8, u9, u10, .ref pa, .ref va, u13, u14, .ref bk, .ref bs, .int (nI d), u18, u19, u20, u21, u22, u23, u24, u25, u26, .ref wa, .ref la, .ref ta, .int (rS K), .int (rN K), .float (rH K), .ref ma, u34, .ref sa])), (xa, .inl (E 0, 12, .inl (g_tv 0))), (fa, .inl (E 0, 18, .inl fl)), (wa, .inl (E 0, 3, .inl (rW K))), (la, .inl (E 1, 4, .inr (.inr (.inl (rP K))))), (ta, .inl (E 1, 4, .inr (.inr (.inl (rT K))))), (ma, .inl (E 1, 3, .inr (.inr (.inl (rM K))))), (sa, .inl (E 0, 9, .inl (g_tv 1))), (pa, .inl (E 0, 29, .inl (pgF S))), (va, .inl (E 1, 5, .inr (.inr (.inl (fl5 S))))), (bk, .inl (E 0, 406, .inl bb)), (bs, .inl (E 1, 70, .inr (.inr (.inl bf))))] H locs := hw
  refine lv_iload_n hx hb dX6_tick_5 rfl (lv_at hl 1 rfl) ?_
  refine lv_i2l hx hb dX6_tick_6 rfl ?_
  refine lv_lconst (v := 1) hx hb dX6_tick_7 (by decide) ?_
  refine lv_ldc2 (v := 99) hx hb hown (hts _ (List.mem_of_getElem? (i := 2) rfl)) dX6_tick_8 ?_
  refine g_cS (As := [.long ((nI n).toInt64), .long 1, .long 99]) (n := 3) (rest := []) (wc := []) (w1 := []) (bytes := cX6_in) (maxL := 6) (ret := (some .boolean)) hc hw hl.1 (m_X6_in (l := l) (D := D) (E := E) (T := T) ((nI n).toInt64) 1 99) gX6_tick_X6_in rfl (by decide +kernel) (by rw [hR]; exact ⟨Nat.le_of_ble_eq_true rfl, Nat.le_of_ble_eq_true rfl⟩) [] (by decide) rfl [] rfl rfl rfl rfl (Nat.le_of_ble_eq_true rfl) dX6_tick_11 ⟨Nat.zero_le _, Nat.zero_le _⟩ (fun H locs hw => ?_)
  have hw : g_W D A s [(o, .inr (6, [.int 0, u1, u2, .ref xa, .int (nI nw), .int (nI nf), .ref fa, u7, u8, u9, u10, .ref pa, .ref va, u13, u14, .ref bk, .ref bs, .int (nI d), u18, u19, u20, u21, u22, u23, u24, u25, u26, .ref wa, .ref la, .ref ta, .int (rS K), .int (rN K), .float (rH K), .ref ma, u34, .ref sa])), (xa, .inl (E 0, 12, .inl (g_tv 0))), (fa, .inl (E 0, 18, .inl fl)), (wa, .inl (E 0, 3, .inl (rW K))), (la, .inl (E 1, 4, .inr (.inr (.inl (rP K))))), (ta, .inl (E 1, 4, .inr (.inr (.inl (rT K))))), (ma, .inl (E 1, 3, .inr (.inr (.inl (rM K))))), (sa, .inl (E 0, 9, .inl (g_tv 1))), (pa, .inl (E 0, 29, .inl (pgF S))), (va, .inl (E 1, 5, .inr (.inr (.inl (fl5 S))))), (bk, .inl (E 0, 406, .inl bb)), (bs, .inl (E 1, 70, .inr (.inr (.inl bf))))] H locs := hw
  refine W.eq (congrArg (fun z => F0 m 14 ls (.int z :: [])) (show (b2i (inL ((nI n).toInt64) 1 99) : Int32) = 1 from (congrArg b2i (in_i (out_nf (n := n) (a := 1) (b := 99) (by omega) hn (by decide)) (by decide) (by decide))))) ?_
  refine lv_if_ne (tgt := 20) hx hb dX6_tick_14 (by decide) (fun c_14 => ?_) (fun c_14 => absurd c_14 (by decide))
  refine lv_aload_n hx hb dX6_tick_20 rfl (lv_at hl 0 rfl) ?_
  refine g_cV (As := []) (n := 0) (rest := []) (wc := [(o, .inr (6, [.int 0, u1, u2, .ref xa, .int (nI nw), .int (nI nf), .ref fa, u7, u8, u9, u10, .ref pa, .ref va, u13, u14, .ref bk, .ref bs, .int (nI d), u18, u19, u20, u21, u22, u23, u24, u25, u26, .ref wa, .ref la, .ref ta, .int (rS K), .int (rN K), .float (rH K), .ref ma, u34, .ref sa])), (pa, .inl (E 0, 29, .inl (pgF S))), (va, .inl (E 1, 5, .inr (.inr (.inl (fl5 S))))), (bk, .inl (E 0, 406, .inl bb)), (bs, .inl (E 1, 70, .inr (.inr (.inl bf))))]) (w1 := [(o, .inr (6, [.int 0, u1, u2, .ref xa, .int (nI nw), .int (nI nf), .ref fa, u7, u8, u9, u10, .ref pa, .ref va, u13, u14, .ref bk, .ref bs, .int (nI (min d 13 + 1)), u18, u19, u20, u21, u22, u23, u24, u25, u26, .ref wa, .ref la, .ref ta, .int (rS K), .int (rN K), .float (rH K), .ref ma, u34, .ref sa])), (pa, .inl (E 0, 29, .inl (pgF S))), (va, .inl (E 1, 5, .inr (.inr (.inl (fl5 S))))), (bk, .inl (E 0, 406, .inl (noI d bb S))), (bs, .inl (E 1, 70, .inr (.inr (.inl (noF d bf S)))))]) (bytes := cX6_note) (maxL := 2) (ret := none) hc hw hl.1 (m_X6_note (l := l) (D := D) (E := E) (T := T) o pa va bk bs d (.int 0) u1 u2 (.ref xa) (.int (nI nw)) (.int (nI nf)) (.ref fa) u7 u8 u9 u10 u13 u14 u18 u19 u20 u21 u22 u23 u24 u25 u26 (.ref wa) (.ref la) (.ref ta) (.int (rS K)) (.int (rN K)) (.float (rH K)) (.ref ma) u34 (.ref sa) S bb bf (by first | assumption | omega | decide)) gX6_tick_X6_note rfl (by decide +kernel) (by rw [hR]; exact ⟨Nat.le_of_ble_eq_true rfl, Nat.le_of_ble_eq_true rfl⟩) [0, 8, 9, 10, 11] 0 6 rfl rfl (by decide) rfl [o, pa, va, bk, bs] rfl rfl rfl rfl (Nat.le_of_ble_eq_true rfl) dX6_tick_21 ⟨Nat.zero_le _, Nat.zero_le _⟩ (fun H locs hw => ?_)
  have hw : g_W D A s [(o, .inr (6, [.int 0, u1, u2, .ref xa, .int (nI nw), .int (nI nf), .ref fa, u7, u8, u9, u10, .ref pa, .ref va, u13, u14, .ref bk, .ref bs, .int (nI (min d 13 + 1)), u18, u19, u20, u21, u22, u23, u24, u25, u26, .ref wa, .ref la, .ref ta, .int (rS K), .int (rN K), .float (rH K), .ref ma, u34, .ref sa])), (xa, .inl (E 0, 12, .inl (g_tv 0))), (fa, .inl (E 0, 18, .inl fl)), (wa, .inl (E 0, 3, .inl (rW K))), (la, .inl (E 1, 4, .inr (.inr (.inl (rP K))))), (ta, .inl (E 1, 4, .inr (.inr (.inl (rT K))))), (ma, .inl (E 1, 3, .inr (.inr (.inl (rM K))))), (sa, .inl (E 0, 9, .inl (g_tv 1))), (pa, .inl (E 0, 29, .inl (pgF S))), (va, .inl (E 1, 5, .inr (.inr (.inl (fl5 S))))), (bk, .inl (E 0, 406, .inl (noI d bb S))), (bs, .inl (E 1, 70, .inr (.inr (.inl (noF d bf S)))))] H locs := hw
  refine lv_aload_n hx hb dX6_tick_24 rfl (lv_at hl 0 rfl) ?_
  refine lv_aload_n hx hb dX6_tick_25 rfl (lv_at hl 0 rfl) ?_
  refine g_get (TT := TX6) hc hw inX6_tick_X6 0 11 3 rfl rfl (by decide) rfl rfl dX6_tick_26 ?_
  refine lv_aload_n hx hb dX6_tick_29 rfl (lv_at hl 0 rfl) ?_
  refine g_get (TT := TX6) hc hw inX6_tick_X6 0 12 4 rfl rfl (by decide) rfl rfl dX6_tick_30 ?_
  refine lv_iload_n hx hb dX6_tick_33 rfl (lv_at hl 1 rfl) ?_
  refine g_cV (As := [.ref pa, .ref va, .int (nI n)]) (n := 3) (rest := []) (wc := [(o, .inr (6, [.int 0, u1, u2, .ref xa, .int (nI nw), .int (nI nf), .ref fa, u7, u8, u9, u10, .ref pa, .ref va, u13, u14, .ref bk, .ref bs, .int (nI (min d 13 + 1)), u18, u19, u20, u21, u22, u23, u24, u25, u26, .ref wa, .ref la, .ref ta, .int (rS K), .int (rN K), .float (rH K), .ref ma, u34, .ref sa])), (xa, .inl (E 0, 12, .inl (g_tv 0))), (fa, .inl (E 0, 18, .inl fl)), (wa, .inl (E 0, 3, .inl (rW K))), (la, .inl (E 1, 4, .inr (.inr (.inl (rP K))))), (ta, .inl (E 1, 4, .inr (.inr (.inl (rT K))))), (ma, .inl (E 1, 3, .inr (.inr (.inl (rM K))))), (sa, .inl (E 0, 9, .inl (g_tv 1))), (pa, .inl (E 0, 29, .inl (pgF S))), (va, .inl (E 1, 5, .inr (.inr (.inl (fl5 S)))))]) (w1 := [(o, .inr (6, [.int 0, u1, u2, .ref xa, .int (nI nw), .int (nI nf), .ref fa, u7, u8, u9, u10, .ref pa, .ref va, u13, u14, .ref bk, .ref bs, .int (nI (min d 13 + 1)), u18, u19, u20, u21, u22, u23, u24, u25, u26, .ref wa, .ref la, .ref ta, .int (rS (rjN nw nf fl (x3F 0 0 0) S K n)), .int (rN (rjN nw nf fl (x3F 0 0 0) S K n)), .float (rH (rjN nw nf fl (x3F 0 0 0) S K n)), .ref ma, u34, .ref sa])), (xa, .inl (E 0, 12, .inl (g_tv 0))), (fa, .inl (E 0, 18, .inl fl)), (wa, .inl (E 0, 3, .inl (rW (rjN nw nf fl (x3F 0 0 0) S K n)))), (la, .inl (E 1, 4, .inr (.inr (.inl (rP (rjN nw nf fl (x3F 0 0 0) S K n)))))), (ta, .inl (E 1, 4, .inr (.inr (.inl (rT (rjN nw nf fl (x3F 0 0 0) S K n)))))), (ma, .inl (E 1, 3, .inr (.inr (.inl (rM (rjN nw nf fl (x3F 0 0 0) S K n)))))), (sa, .inl (E 0, 9, .inl (g_tv 1))), (pa, .inl (E 0, 29, .inl (pgF (tkN nw nf fl (x3F 0 0 0) S n)))), (va, .inl (E 1, 5, .inr (.inr (.inl (fl5 (tkN nw nf fl (x3F 0 0 0) S n))))))]) (bytes := cX6_tickMany) (maxL := 5) (ret := none) hc hw hl.1 (m_X6_tickMany (l := l) (D := D) (E := E) (T := T) o xa fa wa la ta ma sa pa va nw nf B (.int 0) u1 u2 u7 u8 u9 u10 (.ref pa) (.ref va) u13 u14 (.ref bk) (.ref bs) (.int (nI (min d 13 + 1))) u18 u19 u20 u21 u22 u23 u24 u25 u26 u34 fl S K n hok (by omega) (by first | assumption | omega | decide) (by first | assumption | omega | decide)) gX6_tick_X6_tickMany rfl (by decide +kernel) (by rw [hR]; exact ⟨Nat.le_of_ble_eq_true rfl, Nat.le_of_ble_eq_true rfl⟩) [0, 1, 2, 3, 4, 5, 6, 7, 8, 9] 0 6 rfl rfl (by decide) rfl [o, xa, fa, wa, la, ta, ma, sa, pa, va] rfl rfl rfl rfl (Nat.le_of_ble_eq_true rfl) dX6_tick_34 ⟨Nat.zero_le _, Nat.zero_le _⟩ (fun H locs hw => ?_)
  have hw : g_W D A s [(o, .inr (6, [.int 0, u1, u2, .ref xa, .int (nI nw), .int (nI nf), .ref fa, u7, u8, u9, u10, .ref pa, .ref va, u13, u14, .ref bk, .ref bs, .int (nI (min d 13 + 1)), u18, u19, u20, u21, u22, u23, u24, u25, u26, .ref wa, .ref la, .ref ta, .int (rS (rjN nw nf fl (x3F 0 0 0) S K n)), .int (rN (rjN nw nf fl (x3F 0 0 0) S K n)), .float (rH (rjN nw nf fl (x3F 0 0 0) S K n)), .ref ma, u34, .ref sa])), (xa, .inl (E 0, 12, .inl (g_tv 0))), (fa, .inl (E 0, 18, .inl fl)), (wa, .inl (E 0, 3, .inl (rW (rjN nw nf fl (x3F 0 0 0) S K n)))), (la, .inl (E 1, 4, .inr (.inr (.inl (rP (rjN nw nf fl (x3F 0 0 0) S K n)))))), (ta, .inl (E 1, 4, .inr (.inr (.inl (rT (rjN nw nf fl (x3F 0 0 0) S K n)))))), (ma, .inl (E 1, 3, .inr (.inr (.inl (rM (rjN nw nf fl (x3F 0 0 0) S K n)))))), (sa, .inl (E 0, 9, .inl (g_tv 1))), (pa, .inl (E 0, 29, .inl (pgF (tkN nw nf fl (x3F 0 0 0) S n)))), (va, .inl (E 1, 5, .inr (.inr (.inl (fl5 (tkN nw nf fl (x3F 0 0 0) S n)))))), (bk, .inl (E 0, 406, .inl (noI d bb S))), (bs, .inl (E 1, 70, .inr (.inr (.inl (noF d bf S)))))] H locs := hw
  refine lv_aload_n hx hb dX6_tick_37 rfl (lv_at hl 0 rfl) ?_
  refine g_get (TT := TX6) hc hw inX6_tick_X6 0 11 3 rfl rfl (by decide) rfl rfl dX6_tick_38 ?_
  refine lv_iconst (v := 1) hx hb dX6_tick_41 (by decide) ?_
  refine g_ild hc hw 8 1 rfl rfl (by omega) (by decide) dX6_tick_42 ?_
  refine W.eq (congrArg (fun z => F0 m 43 ls (.int z :: [])) (show ((pgF (tkN nw nf fl (x3F 0 0 0) S n)) 1 : Int32) = sM (tkN nw nf fl (x3F 0 0 0) S n) from rfl)) ?_
  exact g_iret hQ hc hw hr rfl rfl dX6_tick_43

theorem dX6_kill_0 : decode cX6_kill 0 = .ok (.aload_n 0, 1) := by decide +kernel
theorem dX6_kill_1 : decode cX6_kill 1 = .ok (.iconst 0, 1) := by decide +kernel
theorem dX6_kill_2 : decode cX6_kill 2 = .ok (.putfield 88, 3) := by decide +kernel
theorem dX6_kill_5 : decode cX6_kill 5 = .ok (.iload_n 1, 1) := by decide +kernel
theorem dX6_kill_6 : decode cX6_kill 6 = .ok (.invokestatic 213, 3) := by decide +kernel
theorem dX6_kill_9 : decode cX6_kill 9 = .ok (.ifCond .eq 5, 3) := by decide +kernel
theorem dX6_kill_12 : decode cX6_kill 12 = .ok (.iconst (-1), 1) := by decide +kernel
theorem dX6_kill_13 : decode cX6_kill 13 = .ok (.ireturn, 1) := by decide +kernel
set_option maxRecDepth 20000 in
theorem ggX6_kill_X6_noWheel : GoodIn wsX6_kill wsX6_noWheel := goodIn_r _ [6, 7, 8, 9, 5, 10] rfl (by decide +kernel)
set_option maxRecDepth 20000 in
theorem gX6_kill_X6_noWheel : GoodIn wsX6_kill (va_wsS RX6 213 yX6_noWheel wsX6_noWheel) := goodIn_app (goodIn_of _ (by decide +kernel)) ggX6_kill_X6_noWheel
theorem inX6_kill_X6 : ∀ w ∈ u_ws RX6 TX6 36, w ∈ wsX6_kill := fun w h => List.mem_cons_of_mem _ (List.mem_append_right _ h)
set_option maxRecDepth 100000 in
set_option maxHeartbeats 4000000 in
theorem m_X6_kill_out {l : Launch} {D : va_G} {E : Nat → ClassId} {T : Nat → Nat} (o : Nat) (u0 : Value) (u1 : Value) (u2 : Value) (u3 : Value) (u4 : Value) (u5 : Value) (u6 : Value) (u7 : Value) (u8 : Value) (u9 : Value) (u10 : Value) (u11 : Value) (u12 : Value) (u13 : Value) (u14 : Value) (u15 : Value) (u16 : Value) (u17 : Value) (u18 : Value) (u19 : Value) (u20 : Value) (u21 : Value) (u22 : Value) (u23 : Value) (u24 : Value) (u25 : Value) (u26 : Value) (u27 : Value) (u28 : Value) (u29 : Value) (u30 : Value) (u31 : Value) (u32 : Value) (u33 : Value) (u34 : Value) (u35 : Value) (v : Int32) (ho : outB v 0 3 = true) : g_M l D E T yX6_kill wsX6_kill 2 45 [.ref o, .int v] [(o, .inr (6, [u0, u1, u2, u3, u4, u5, u6, u7, u8, u9, u10, u11, u12, u13, u14, u15, u16, u17, u18, u19, u20, u21, u22, u23, u24, u25, u26, u27, u28, u29, u30, u31, u32, u33, u34, u35]))] [(o, .inr (6, [.int 0, u1, u2, u3, u4, u5, u6, u7, u8, u9, u10, u11, u12, u13, u14, u15, u16, u17, u18, u19, u20, u21, u22, u23, u24, u25, u26, u27, u28, u29, u30, u31, u32, u33, u34, u35]))] (some (.int (-1))) := by
  refine g_M.of (cc := cX6_kill) (nL := 2) (ret := (some .int)) (own := RX6) (lv := [(0, .ref o), (1, .int v)]) (by decide) rfl rfl (Nat.le_of_ble_eq_true rfl) rfl ?_
  intro p e R s m args below meth c A Q H locs ls hR hQ hc hr hw hl
  have hx := hc.1
  have hb := hc.2.1
  have hts := hc.2.2.2.1
  have hown := hc.2.2.2.2.1
  refine lv_aload_n hx hb dX6_kill_0 rfl (lv_at hl 0 rfl) ?_
  refine lv_iconst (v := 0) hx hb dX6_kill_1 (by decide) ?_
  refine g_put (TT := TX6) hc hw inX6_kill_X6 tyX6 tyX6_ok nmX6 0 0 1 rfl rfl (by decide) rfl rfl rfl rfl (Nat.le_of_ble_eq_true rfl) dX6_kill_2 (fun H locs hw => ?_)
  have hw : g_W D A s [(o, .inr (6, [.int 0, u1, u2, u3, u4, u5, u6, u7, u8, u9, u10, u11, u12, u13, u14, u15, u16, u17, u18, u19, u20, u21, u22, u23, u24, u25, u26, u27, u28, u29, u30, u31, u32, u33, u34, u35]))] H locs := hw
  refine lv_iload_n hx hb dX6_kill_5 rfl (lv_at hl 1 rfl) ?_
  refine g_cS (As := [.int v]) (n := 1) (rest := []) (wc := []) (w1 := []) (bytes := cX6_noWheel) (maxL := 1) (ret := (some .boolean)) hc hw hl.1 (m_X6_noWheel (l := l) (D := D) (E := E) (T := T) v) gX6_kill_X6_noWheel rfl (by decide +kernel) (by rw [hR]; exact ⟨Nat.le_of_ble_eq_true rfl, Nat.le_of_ble_eq_true rfl⟩) [] (by decide) rfl [] rfl rfl rfl rfl (Nat.le_of_ble_eq_true rfl) dX6_kill_6 ⟨Nat.zero_le _, Nat.zero_le _⟩ (fun H locs hw => ?_)
  have hw : g_W D A s [(o, .inr (6, [.int 0, u1, u2, u3, u4, u5, u6, u7, u8, u9, u10, u11, u12, u13, u14, u15, u16, u17, u18, u19, u20, u21, u22, u23, u24, u25, u26, u27, u28, u29, u30, u31, u32, u33, u34, u35]))] H locs := hw
  refine W.eq (congrArg (fun z => F0 m 9 ls (.int z :: [])) (show (b2i (outB v 0 3) : Int32) = 1 from (congrArg b2i ho))) ?_
  refine lv_if_eq (tgt := 14) hx hb dX6_kill_9 (by decide) (fun c_9 => absurd c_9 (by decide)) (fun c_9 => ?_)
  refine lv_iconst (v := (-1)) hx hb dX6_kill_12 (by decide) ?_
  exact g_iret hQ hc hw hr rfl rfl dX6_kill_13

theorem dX6_kill_14 : decode cX6_kill 14 = .ok (.aload_n 0, 1) := by decide +kernel
theorem dX6_kill_15 : decode cX6_kill 15 = .ok (.getfield 25, 3) := by decide +kernel
theorem dX6_kill_18 : decode cX6_kill 18 = .ok (.iconst 0, 1) := by decide +kernel
theorem dX6_kill_19 : decode cX6_kill 19 = .ok (.iaload, 1) := by decide +kernel
theorem dX6_kill_20 : decode cX6_kill 20 = .ok (.iload_n 1, 1) := by decide +kernel
theorem dX6_kill_21 : decode cX6_kill 21 = .ok (.invokestatic 139, 3) := by decide +kernel
theorem dX6_kill_24 : decode cX6_kill 24 = .ok (.ifCond .eq 6, 3) := by decide +kernel
theorem dX6_kill_27 : decode cX6_kill 27 = .ok (.bipush (-3), 2) := by decide +kernel
theorem dX6_kill_29 : decode cX6_kill 29 = .ok (.ireturn, 1) := by decide +kernel
set_option maxRecDepth 20000 in
theorem ggX6_kill_X6_has : GoodIn wsX6_kill wsX6_has := goodIn_r _ [13] rfl (by decide +kernel)
set_option maxRecDepth 20000 in
theorem gX6_kill_X6_has : GoodIn wsX6_kill (va_wsS RX6 139 yX6_has wsX6_has) := goodIn_app (goodIn_of _ (by decide +kernel)) ggX6_kill_X6_has
set_option maxRecDepth 100000 in
set_option maxHeartbeats 4000000 in
theorem m_X6_kill_no {l : Launch} {D : va_G} {E : Nat → ClassId} {T : Nat → Nat} (o : Nat) (pa : Nat) (i : Nat) (u0 : Value) (u1 : Value) (u2 : Value) (u3 : Value) (u4 : Value) (u5 : Value) (u6 : Value) (u7 : Value) (u8 : Value) (u9 : Value) (u10 : Value) (u12 : Value) (u13 : Value) (u14 : Value) (u15 : Value) (u16 : Value) (u17 : Value) (u18 : Value) (u19 : Value) (u20 : Value) (u21 : Value) (u22 : Value) (u23 : Value) (u24 : Value) (u25 : Value) (u26 : Value) (u27 : Value) (u28 : Value) (u29 : Value) (u30 : Value) (u31 : Value) (u32 : Value) (u33 : Value) (u34 : Value) (u35 : Value) (S : TS) (hi9 : i ≤ 3) (hd : sD S < 16) (hal : (sD S).testBit i = true) : g_M l D E T yX6_kill wsX6_kill 2 45 [.ref o, .int (nI i)] [(o, .inr (6, [u0, u1, u2, u3, u4, u5, u6, u7, u8, u9, u10, .ref pa, u12, u13, u14, u15, u16, u17, u18, u19, u20, u21, u22, u23, u24, u25, u26, u27, u28, u29, u30, u31, u32, u33, u34, u35])), (pa, .inl (E 0, 29, .inl (pgF S)))] [(o, .inr (6, [.int 0, u1, u2, u3, u4, u5, u6, u7, u8, u9, u10, .ref pa, u12, u13, u14, u15, u16, u17, u18, u19, u20, u21, u22, u23, u24, u25, u26, u27, u28, u29, u30, u31, u32, u33, u34, u35])), (pa, .inl (E 0, 29, .inl (pgF S)))] (some (.int (-3))) := by
  refine g_M.of (cc := cX6_kill) (nL := 2) (ret := (some .int)) (own := RX6) (lv := [(0, .ref o), (1, .int (nI i))]) (by decide) rfl rfl (Nat.le_of_ble_eq_true rfl) rfl ?_
  intro p e R s m args below meth c A Q H locs ls hR hQ hc hr hw hl
  have hx := hc.1
  have hb := hc.2.1
  have hts := hc.2.2.2.1
  have hown := hc.2.2.2.2.1
  refine lv_aload_n hx hb dX6_kill_0 rfl (lv_at hl 0 rfl) ?_
  refine lv_iconst (v := 0) hx hb dX6_kill_1 (by decide) ?_
  refine g_put (TT := TX6) hc hw inX6_kill_X6 tyX6 tyX6_ok nmX6 0 0 1 rfl rfl (by decide) rfl rfl rfl rfl (Nat.le_of_ble_eq_true rfl) dX6_kill_2 (fun H locs hw => ?_)
  have hw : g_W D A s [(o, .inr (6, [.int 0, u1, u2, u3, u4, u5, u6, u7, u8, u9, u10, .ref pa, u12, u13, u14, u15, u16, u17, u18, u19, u20, u21, u22, u23, u24, u25, u26, u27, u28, u29, u30, u31, u32, u33, u34, u35])), (pa, .inl (E 0, 29, .inl (pgF S)))] H locs := hw
  refine lv_iload_n hx hb dX6_kill_5 rfl (lv_at hl 1 rfl) ?_
  refine g_cS (As := [.int (nI i)]) (n := 1) (rest := []) (wc := []) (w1 := []) (bytes := cX6_noWheel) (maxL := 1) (ret := (some .boolean)) hc hw hl.1 (m_X6_noWheel (l := l) (D := D) (E := E) (T := T) (nI i)) gX6_kill_X6_noWheel rfl (by decide +kernel) (by rw [hR]; exact ⟨Nat.le_of_ble_eq_true rfl, Nat.le_of_ble_eq_true rfl⟩) [] (by decide) rfl [] rfl rfl rfl rfl (Nat.le_of_ble_eq_true rfl) dX6_kill_6 ⟨Nat.zero_le _, Nat.zero_le _⟩ (fun H locs hw => ?_)
  have hw : g_W D A s [(o, .inr (6, [.int 0, u1, u2, u3, u4, u5, u6, u7, u8, u9, u10, .ref pa, u12, u13, u14, u15, u16, u17, u18, u19, u20, u21, u22, u23, u24, u25, u26, u27, u28, u29, u30, u31, u32, u33, u34, u35])), (pa, .inl (E 0, 29, .inl (pgF S)))] H locs := hw
  refine W.eq (congrArg (fun z => F0 m 9 ls (.int z :: [])) (show (b2i (outB (nI i) 0 3) : Int32) = 0 from (congrArg b2i (out_nf (n := i) (a := 0) (b := 3) (by omega) hi9 (by decide))))) ?_
  refine lv_if_eq (tgt := 14) hx hb dX6_kill_9 (by decide) (fun c_9 => ?_) (fun c_9 => absurd c_9 (by decide))
  refine lv_aload_n hx hb dX6_kill_14 rfl (lv_at hl 0 rfl) ?_
  refine g_get (TT := TX6) hc hw inX6_kill_X6 0 11 2 rfl rfl (by decide) rfl rfl dX6_kill_15 ?_
  refine lv_iconst (v := 0) hx hb dX6_kill_18 (by decide) ?_
  refine g_ild hc hw 1 0 rfl rfl (by omega) (by decide) dX6_kill_19 ?_
  refine W.eq (congrArg (fun z => F0 m 20 ls (.int z :: [])) (show ((pgF S) 0 : Int32) = nI (sD S) from rfl)) ?_
  refine lv_iload_n hx hb dX6_kill_20 rfl (lv_at hl 1 rfl) ?_
  refine g_cS (As := [.int (nI (sD S)), .int (nI i)]) (n := 2) (rest := []) (wc := []) (w1 := []) (bytes := cX6_has) (maxL := 2) (ret := (some .boolean)) hc hw hl.1 (m_X6_has (l := l) (D := D) (E := E) (T := T) (sD S) i hd (by omega)) gX6_kill_X6_has rfl (by decide +kernel) (by rw [hR]; exact ⟨Nat.le_of_ble_eq_true rfl, Nat.le_of_ble_eq_true rfl⟩) [] (by decide) rfl [] rfl rfl rfl rfl (Nat.le_of_ble_eq_true rfl) dX6_kill_21 ⟨Nat.zero_le _, Nat.zero_le _⟩ (fun H locs hw => ?_)
  have hw : g_W D A s [(o, .inr (6, [.int 0, u1, u2, u3, u4, u5, u6, u7, u8, u9, u10, .ref pa, u12, u13, u14, u15, u16, u17, u18, u19, u20, u21, u22, u23, u24, u25, u26, u27, u28, u29, u30, u31, u32, u33, u34, u35])), (pa, .inl (E 0, 29, .inl (pgF S)))] H locs := hw
  refine W.eq (congrArg (fun z => F0 m 24 ls (.int z :: [])) (show (b2i ((sD S).testBit i) : Int32) = 1 from (congrArg b2i hal))) ?_
  refine lv_if_eq (tgt := 30) hx hb dX6_kill_24 (by decide) (fun c_24 => absurd c_24 (by decide)) (fun c_24 => ?_)
  refine lv_bipush (v := (-3)) hx hb dX6_kill_27 (by decide) ?_
  exact g_iret hQ hc hw hr rfl rfl dX6_kill_29

theorem dX6_kill_30 : decode cX6_kill 30 = .ok (.aload_n 0, 1) := by decide +kernel
theorem dX6_kill_31 : decode cX6_kill 31 = .ok (.invokevirtual 231, 3) := by decide +kernel
theorem dX6_kill_34 : decode cX6_kill 34 = .ok (.aload_n 0, 1) := by decide +kernel
theorem dX6_kill_35 : decode cX6_kill 35 = .ok (.getfield 25, 3) := by decide +kernel
theorem dX6_kill_38 : decode cX6_kill 38 = .ok (.iload_n 1, 1) := by decide +kernel
theorem dX6_kill_39 : decode cX6_kill 39 = .ok (.invokestatic 237, 3) := by decide +kernel
theorem dX6_kill_42 : decode cX6_kill 42 = .ok (.aload_n 0, 1) := by decide +kernel
theorem dX6_kill_43 : decode cX6_kill 43 = .ok (.getfield 25, 3) := by decide +kernel
theorem dX6_kill_46 : decode cX6_kill 46 = .ok (.iconst 0, 1) := by decide +kernel
theorem dX6_kill_47 : decode cX6_kill 47 = .ok (.iaload, 1) := by decide +kernel
theorem dX6_kill_48 : decode cX6_kill 48 = .ok (.invokestatic 202, 3) := by decide +kernel
theorem dX6_kill_51 : decode cX6_kill 51 = .ok (.ireturn, 1) := by decide +kernel
set_option maxRecDepth 20000 in
theorem ggX6_kill_X6_note : GoodIn wsX6_kill wsX6_note := goodIn_r _ [17, 18, 19, 20, 2, 21, 28, 29, 30, 31, 32, 33, 34, 35, 36, 37, 38, 39, 40, 41, 42, 43, 44, 45, 46, 47, 48, 49, 50, 51, 52, 53, 54, 55, 56, 57, 58, 59, 60, 61, 62, 63] rfl (by decide +kernel)
set_option maxRecDepth 20000 in
theorem gX6_kill_X6_note : GoodIn wsX6_kill (wsV RX6 231 RX6 yX6_note wsX6_note) := goodIn_app (goodIn_of _ (by decide +kernel)) ggX6_kill_X6_note
set_option maxRecDepth 20000 in
theorem ggX6_kill_X6_killOn : GoodIn wsX6_kill wsX6_killOn := goodIn_r _ [24, 25, 26, 5, 27] rfl (by decide +kernel)
set_option maxRecDepth 20000 in
theorem gX6_kill_X6_killOn : GoodIn wsX6_kill (va_wsS RX6 237 yX6_killOn wsX6_killOn) := goodIn_app (goodIn_of _ (by decide +kernel)) ggX6_kill_X6_killOn
set_option maxRecDepth 20000 in
theorem ggX6_kill_X6_ones : GoodIn wsX6_kill wsX6_ones := goodIn_r _ [27] rfl (by decide +kernel)
set_option maxRecDepth 20000 in
theorem gX6_kill_X6_ones : GoodIn wsX6_kill (va_wsS RX6 202 yX6_ones wsX6_ones) := goodIn_app (goodIn_of _ (by decide +kernel)) ggX6_kill_X6_ones
set_option maxRecDepth 100000 in
set_option maxHeartbeats 4000000 in
theorem m_X6_kill {l : Launch} {D : va_G} {E : Nat → ClassId} {T : Nat → Nat} (o : Nat) (pa : Nat) (va : Nat) (bk : Nat) (bs : Nat) (d : Nat) (u0 : Value) (u1 : Value) (u2 : Value) (u3 : Value) (u4 : Value) (u5 : Value) (u6 : Value) (u7 : Value) (u8 : Value) (u9 : Value) (u10 : Value) (u13 : Value) (u14 : Value) (u18 : Value) (u19 : Value) (u20 : Value) (u21 : Value) (u22 : Value) (u23 : Value) (u24 : Value) (u25 : Value) (u26 : Value) (u27 : Value) (u28 : Value) (u29 : Value) (u30 : Value) (u31 : Value) (u32 : Value) (u33 : Value) (u34 : Value) (u35 : Value) (S : TS) (bb : Nat → Int32) (bf : Nat → UInt32) (B : Nat) (i : Nat) (hok : OkS B S) (hd9 : d ≤ 14) (hi9 : i ≤ 3) (hal : (sD S).testBit i = false) : g_M l D E T yX6_kill wsX6_kill 2 45 [.ref o, .int (nI i)] [(o, .inr (6, [u0, u1, u2, u3, u4, u5, u6, u7, u8, u9, u10, .ref pa, .ref va, u13, u14, .ref bk, .ref bs, .int (nI d), u18, u19, u20, u21, u22, u23, u24, u25, u26, u27, u28, u29, u30, u31, u32, u33, u34, u35])), (pa, .inl (E 0, 29, .inl (pgF S))), (va, .inl (E 1, 5, .inr (.inr (.inl (fl5 S))))), (bk, .inl (E 0, 406, .inl bb)), (bs, .inl (E 1, 70, .inr (.inr (.inl bf))))] [(o, .inr (6, [.int 0, u1, u2, u3, u4, u5, u6, u7, u8, u9, u10, .ref pa, .ref va, u13, u14, .ref bk, .ref bs, .int (nI (min d 13 + 1)), u18, u19, u20, u21, u22, u23, u24, u25, u26, u27, u28, u29, u30, u31, u32, u33, u34, u35])), (pa, .inl (E 0, 29, .inl (pgF (skS S i)))), (va, .inl (E 1, 5, .inr (.inr (.inl (fl5 (skS S i)))))), (bk, .inl (E 0, 406, .inl (noI d bb S))), (bs, .inl (E 1, 70, .inr (.inr (.inl (noF d bf S)))))] (some (.int (nI (pcn (sD (skS S i)))))) := by
  refine g_M.of (cc := cX6_kill) (nL := 2) (ret := (some .int)) (own := RX6) (lv := [(0, .ref o), (1, .int (nI i))]) (by decide) rfl rfl (Nat.le_of_ble_eq_true rfl) rfl ?_
  intro p e R s m args below meth c A Q H locs ls hR hQ hc hr hw hl
  have hx := hc.1
  have hb := hc.2.1
  have hts := hc.2.2.2.1
  have hown := hc.2.2.2.2.1
  refine lv_aload_n hx hb dX6_kill_0 rfl (lv_at hl 0 rfl) ?_
  refine lv_iconst (v := 0) hx hb dX6_kill_1 (by decide) ?_
  refine g_put (TT := TX6) hc hw inX6_kill_X6 tyX6 tyX6_ok nmX6 0 0 1 rfl rfl (by decide) rfl rfl rfl rfl (Nat.le_of_ble_eq_true rfl) dX6_kill_2 (fun H locs hw => ?_)
  have hw : g_W D A s [(o, .inr (6, [.int 0, u1, u2, u3, u4, u5, u6, u7, u8, u9, u10, .ref pa, .ref va, u13, u14, .ref bk, .ref bs, .int (nI d), u18, u19, u20, u21, u22, u23, u24, u25, u26, u27, u28, u29, u30, u31, u32, u33, u34, u35])), (pa, .inl (E 0, 29, .inl (pgF S))), (va, .inl (E 1, 5, .inr (.inr (.inl (fl5 S))))), (bk, .inl (E 0, 406, .inl bb)), (bs, .inl (E 1, 70, .inr (.inr (.inl bf))))] H locs := hw
  refine lv_iload_n hx hb dX6_kill_5 rfl (lv_at hl 1 rfl) ?_
  refine g_cS (As := [.int (nI i)]) (n := 1) (rest := []) (wc := []) (w1 := []) (bytes := cX6_noWheel) (maxL := 1) (ret := (some .boolean)) hc hw hl.1 (m_X6_noWheel (l := l) (D := D) (E := E) (T := T) (nI i)) gX6_kill_X6_noWheel rfl (by decide +kernel) (by rw [hR]; exact ⟨Nat.le_of_ble_eq_true rfl, Nat.le_of_ble_eq_true rfl⟩) [] (by decide) rfl [] rfl rfl rfl rfl (Nat.le_of_ble_eq_true rfl) dX6_kill_6 ⟨Nat.zero_le _, Nat.zero_le _⟩ (fun H locs hw => ?_)
  have hw : g_W D A s [(o, .inr (6, [.int 0, u1, u2, u3, u4, u5, u6, u7, u8, u9, u10, .ref pa, .ref va, u13, u14, .ref bk, .ref bs, .int (nI d), u18, u19, u20, u21, u22, u23, u24, u25, u26, u27, u28, u29, u30, u31, u32, u33, u34, u35])), (pa, .inl (E 0, 29, .inl (pgF S))), (va, .inl (E 1, 5, .inr (.inr (.inl (fl5 S))))), (bk, .inl (E 0, 406, .inl bb)), (bs, .inl (E 1, 70, .inr (.inr (.inl bf))))] H locs := hw
  refine W.eq (congrArg (fun z => F0 m 9 ls (.int z :: [])) (show (b2i (outB (nI i) 0 3) : Int32) = 0 from (congrArg b2i (out_nf (n := i) (a := 0) (b := 3) (by omega) hi9 (by decide))))) ?_
  refine lv_if_eq (tgt := 14) hx hb dX6_kill_9 (by decide) (fun c_9 => ?_) (fun c_9 => absurd c_9 (by decide))
  refine lv_aload_n hx hb dX6_kill_14 rfl (lv_at hl 0 rfl) ?_
  refine g_get (TT := TX6) hc hw inX6_kill_X6 0 11 2 rfl rfl (by decide) rfl rfl dX6_kill_15 ?_
  refine lv_iconst (v := 0) hx hb dX6_kill_18 (by decide) ?_
  refine g_ild hc hw 1 0 rfl rfl (by omega) (by decide) dX6_kill_19 ?_
  refine W.eq (congrArg (fun z => F0 m 20 ls (.int z :: [])) (show ((pgF S) 0 : Int32) = nI (sD S) from rfl)) ?_
  refine lv_iload_n hx hb dX6_kill_20 rfl (lv_at hl 1 rfl) ?_
  refine g_cS (As := [.int (nI (sD S)), .int (nI i)]) (n := 2) (rest := []) (wc := []) (w1 := []) (bytes := cX6_has) (maxL := 2) (ret := (some .boolean)) hc hw hl.1 (m_X6_has (l := l) (D := D) (E := E) (T := T) (sD S) i hok.d (by omega)) gX6_kill_X6_has rfl (by decide +kernel) (by rw [hR]; exact ⟨Nat.le_of_ble_eq_true rfl, Nat.le_of_ble_eq_true rfl⟩) [] (by decide) rfl [] rfl rfl rfl rfl (Nat.le_of_ble_eq_true rfl) dX6_kill_21 ⟨Nat.zero_le _, Nat.zero_le _⟩ (fun H locs hw => ?_)
  have hw : g_W D A s [(o, .inr (6, [.int 0, u1, u2, u3, u4, u5, u6, u7, u8, u9, u10, .ref pa, .ref va, u13, u14, .ref bk, .ref bs, .int (nI d), u18, u19, u20, u21, u22, u23, u24, u25, u26, u27, u28, u29, u30, u31, u32, u33, u34, u35])), (pa, .inl (E 0, 29, .inl (pgF S))), (va, .inl (E 1, 5, .inr (.inr (.inl (fl5 S))))), (bk, .inl (E 0, 406, .inl bb)), (bs, .inl (E 1, 70, .inr (.inr (.inl bf))))] H locs := hw
  refine W.eq (congrArg (fun z => F0 m 24 ls (.int z :: [])) (show (b2i ((sD S).testBit i) : Int32) = 0 from (congrArg b2i hal))) ?_
  refine lv_if_eq (tgt := 30) hx hb dX6_kill_24 (by decide) (fun c_24 => ?_) (fun c_24 => absurd c_24 (by decide))
  refine lv_aload_n hx hb dX6_kill_30 rfl (lv_at hl 0 rfl) ?_
  refine g_cV (As := []) (n := 0) (rest := []) (wc := [(o, .inr (6, [.int 0, u1, u2, u3, u4, u5, u6, u7, u8, u9, u10, .ref pa, .ref va, u13, u14, .ref bk, .ref bs, .int (nI d), u18, u19, u20, u21, u22, u23, u24, u25, u26, u27, u28, u29, u30, u31, u32, u33, u34, u35])), (pa, .inl (E 0, 29, .inl (pgF S))), (va, .inl (E 1, 5, .inr (.inr (.inl (fl5 S))))), (bk, .inl (E 0, 406, .inl bb)), (bs, .inl (E 1, 70, .inr (.inr (.inl bf))))]) (w1 := [(o, .inr (6, [.int 0, u1, u2, u3, u4, u5, u6, u7, u8, u9, u10, .ref pa, .ref va, u13, u14, .ref bk, .ref bs, .int (nI (min d 13 + 1)), u18, u19, u20, u21, u22, u23, u24, u25, u26, u27, u28, u29, u30, u31, u32, u33, u34, u35])), (pa, .inl (E 0, 29, .inl (pgF S))), (va, .inl (E 1, 5, .inr (.inr (.inl (fl5 S))))), (bk, .inl (E 0, 406, .inl (noI d bb S))), (bs, .inl (E 1, 70, .inr (.inr (.inl (noF d bf S)))))]) (bytes := cX6_note) (maxL := 2) (ret := none) hc hw hl.1 (m_X6_note (l := l) (D := D) (E := E) (T := T) o pa va bk bs d (.int 0) u1 u2 u3 u4 u5 u6 u7 u8 u9 u10 u13 u14 u18 u19 u20 u21 u22 u23 u24 u25 u26 u27 u28 u29 u30 u31 u32 u33 u34 u35 S bb bf (by first | assumption | omega | decide)) gX6_kill_X6_note rfl (by decide +kernel) (by rw [hR]; exact ⟨Nat.le_of_ble_eq_true rfl, Nat.le_of_ble_eq_true rfl⟩) [0, 1, 2, 3, 4] 0 6 rfl rfl (by decide) rfl [o, pa, va, bk, bs] rfl rfl rfl rfl (Nat.le_of_ble_eq_true rfl) dX6_kill_31 ⟨Nat.zero_le _, Nat.zero_le _⟩ (fun H locs hw => ?_)
  have hw : g_W D A s [(o, .inr (6, [.int 0, u1, u2, u3, u4, u5, u6, u7, u8, u9, u10, .ref pa, .ref va, u13, u14, .ref bk, .ref bs, .int (nI (min d 13 + 1)), u18, u19, u20, u21, u22, u23, u24, u25, u26, u27, u28, u29, u30, u31, u32, u33, u34, u35])), (pa, .inl (E 0, 29, .inl (pgF S))), (va, .inl (E 1, 5, .inr (.inr (.inl (fl5 S))))), (bk, .inl (E 0, 406, .inl (noI d bb S))), (bs, .inl (E 1, 70, .inr (.inr (.inl (noF d bf S)))))] H locs := hw
  refine lv_aload_n hx hb dX6_kill_34 rfl (lv_at hl 0 rfl) ?_
  refine g_get (TT := TX6) hc hw inX6_kill_X6 0 11 2 rfl rfl (by decide) rfl rfl dX6_kill_35 ?_
  refine lv_iload_n hx hb dX6_kill_38 rfl (lv_at hl 1 rfl) ?_
  refine g_cS (As := [.ref pa, .int (nI i)]) (n := 2) (rest := []) (wc := [(pa, .inl (E 0, 29, .inl (pgF S)))]) (w1 := [(pa, .inl (E 0, 29, .inl (pgF (skS S i))))]) (bytes := cX6_killOn) (maxL := 2) (ret := none) hc hw hl.1 (m_X6_killOn (l := l) (D := D) (E := E) (T := T) pa i S hok.d (by omega)) gX6_kill_X6_killOn rfl (by decide +kernel) (by rw [hR]; exact ⟨Nat.le_of_ble_eq_true rfl, Nat.le_of_ble_eq_true rfl⟩) [1] (by decide) rfl [pa] rfl rfl rfl rfl (Nat.le_of_ble_eq_true rfl) dX6_kill_39 ⟨Nat.zero_le _, Nat.zero_le _⟩ (fun H locs hw => ?_)
  have hw : g_W D A s [(o, .inr (6, [.int 0, u1, u2, u3, u4, u5, u6, u7, u8, u9, u10, .ref pa, .ref va, u13, u14, .ref bk, .ref bs, .int (nI (min d 13 + 1)), u18, u19, u20, u21, u22, u23, u24, u25, u26, u27, u28, u29, u30, u31, u32, u33, u34, u35])), (pa, .inl (E 0, 29, .inl (pgF (skS S i)))), (va, .inl (E 1, 5, .inr (.inr (.inl (fl5 S))))), (bk, .inl (E 0, 406, .inl (noI d bb S))), (bs, .inl (E 1, 70, .inr (.inr (.inl (noF d bf S)))))] H locs := hw
  refine lv_aload_n hx hb dX6_kill_42 rfl (lv_at hl 0 rfl) ?_
  refine g_get (TT := TX6) hc hw inX6_kill_X6 0 11 2 rfl rfl (by decide) rfl rfl dX6_kill_43 ?_
  refine lv_iconst (v := 0) hx hb dX6_kill_46 (by decide) ?_
  refine g_ild hc hw 1 0 rfl rfl (by omega) (by decide) dX6_kill_47 ?_
  refine W.eq (congrArg (fun z => F0 m 48 ls (.int z :: [])) (show ((pgF (skS S i)) 0 : Int32) = nI (sD (skS S i)) from rfl)) ?_
  refine g_cS (As := [.int (nI (sD (skS S i)))]) (n := 1) (rest := []) (wc := []) (w1 := []) (bytes := cX6_ones) (maxL := 3) (ret := (some .int)) hc hw hl.1 (m_X6_ones (l := l) (D := D) (E := E) (T := T) (sD (skS S i)) ((hok.sk (show i < 4 by omega)).d)) gX6_kill_X6_ones rfl (by decide +kernel) (by rw [hR]; exact ⟨Nat.le_of_ble_eq_true rfl, Nat.le_of_ble_eq_true rfl⟩) [] (by decide) rfl [] rfl rfl rfl rfl (Nat.le_of_ble_eq_true rfl) dX6_kill_48 ⟨Nat.zero_le _, Nat.zero_le _⟩ (fun H locs hw => ?_)
  have hw : g_W D A s [(o, .inr (6, [.int 0, u1, u2, u3, u4, u5, u6, u7, u8, u9, u10, .ref pa, .ref va, u13, u14, .ref bk, .ref bs, .int (nI (min d 13 + 1)), u18, u19, u20, u21, u22, u23, u24, u25, u26, u27, u28, u29, u30, u31, u32, u33, u34, u35])), (pa, .inl (E 0, 29, .inl (pgF (skS S i)))), (va, .inl (E 1, 5, .inr (.inr (.inl (fl5 S))))), (bk, .inl (E 0, 406, .inl (noI d bb S))), (bs, .inl (E 1, 70, .inr (.inr (.inl (noF d bf S)))))] H locs := hw
  exact g_iret hQ hc hw hr rfl rfl dX6_kill_51

theorem dX6_mend_0 : decode cX6_mend 0 = .ok (.aload_n 0, 1) := by decide +kernel
theorem dX6_mend_1 : decode cX6_mend 1 = .ok (.iconst 0, 1) := by decide +kernel
theorem dX6_mend_2 : decode cX6_mend 2 = .ok (.putfield 88, 3) := by decide +kernel
theorem dX6_mend_5 : decode cX6_mend 5 = .ok (.iload_n 1, 1) := by decide +kernel
theorem dX6_mend_6 : decode cX6_mend 6 = .ok (.invokestatic 213, 3) := by decide +kernel
theorem dX6_mend_9 : decode cX6_mend 9 = .ok (.ifCond .eq 5, 3) := by decide +kernel
theorem dX6_mend_12 : decode cX6_mend 12 = .ok (.iconst (-1), 1) := by decide +kernel
theorem dX6_mend_13 : decode cX6_mend 13 = .ok (.ireturn, 1) := by decide +kernel
set_option maxRecDepth 20000 in
theorem ggX6_mend_X6_noWheel : GoodIn wsX6_mend wsX6_noWheel := goodIn_r _ [6, 7, 8, 9, 5, 10] rfl (by decide +kernel)
set_option maxRecDepth 20000 in
theorem gX6_mend_X6_noWheel : GoodIn wsX6_mend (va_wsS RX6 213 yX6_noWheel wsX6_noWheel) := goodIn_app (goodIn_of _ (by decide +kernel)) ggX6_mend_X6_noWheel
theorem inX6_mend_X6 : ∀ w ∈ u_ws RX6 TX6 36, w ∈ wsX6_mend := fun w h => List.mem_cons_of_mem _ (List.mem_append_right _ h)
set_option maxRecDepth 100000 in
set_option maxHeartbeats 4000000 in
theorem m_X6_mend_out {l : Launch} {D : va_G} {E : Nat → ClassId} {T : Nat → Nat} (o : Nat) (u0 : Value) (u1 : Value) (u2 : Value) (u3 : Value) (u4 : Value) (u5 : Value) (u6 : Value) (u7 : Value) (u8 : Value) (u9 : Value) (u10 : Value) (u11 : Value) (u12 : Value) (u13 : Value) (u14 : Value) (u15 : Value) (u16 : Value) (u17 : Value) (u18 : Value) (u19 : Value) (u20 : Value) (u21 : Value) (u22 : Value) (u23 : Value) (u24 : Value) (u25 : Value) (u26 : Value) (u27 : Value) (u28 : Value) (u29 : Value) (u30 : Value) (u31 : Value) (u32 : Value) (u33 : Value) (u34 : Value) (u35 : Value) (v : Int32) (ho : outB v 0 3 = true) : g_M l D E T yX6_mend wsX6_mend 2 45 [.ref o, .int v] [(o, .inr (6, [u0, u1, u2, u3, u4, u5, u6, u7, u8, u9, u10, u11, u12, u13, u14, u15, u16, u17, u18, u19, u20, u21, u22, u23, u24, u25, u26, u27, u28, u29, u30, u31, u32, u33, u34, u35]))] [(o, .inr (6, [.int 0, u1, u2, u3, u4, u5, u6, u7, u8, u9, u10, u11, u12, u13, u14, u15, u16, u17, u18, u19, u20, u21, u22, u23, u24, u25, u26, u27, u28, u29, u30, u31, u32, u33, u34, u35]))] (some (.int (-1))) := by
  refine g_M.of (cc := cX6_mend) (nL := 2) (ret := (some .int)) (own := RX6) (lv := [(0, .ref o), (1, .int v)]) (by decide) rfl rfl (Nat.le_of_ble_eq_true rfl) rfl ?_
  intro p e R s m args below meth c A Q H locs ls hR hQ hc hr hw hl
  have hx := hc.1
  have hb := hc.2.1
  have hts := hc.2.2.2.1
  have hown := hc.2.2.2.2.1
  refine lv_aload_n hx hb dX6_mend_0 rfl (lv_at hl 0 rfl) ?_
  refine lv_iconst (v := 0) hx hb dX6_mend_1 (by decide) ?_
  refine g_put (TT := TX6) hc hw inX6_mend_X6 tyX6 tyX6_ok nmX6 0 0 1 rfl rfl (by decide) rfl rfl rfl rfl (Nat.le_of_ble_eq_true rfl) dX6_mend_2 (fun H locs hw => ?_)
  have hw : g_W D A s [(o, .inr (6, [.int 0, u1, u2, u3, u4, u5, u6, u7, u8, u9, u10, u11, u12, u13, u14, u15, u16, u17, u18, u19, u20, u21, u22, u23, u24, u25, u26, u27, u28, u29, u30, u31, u32, u33, u34, u35]))] H locs := hw
  refine lv_iload_n hx hb dX6_mend_5 rfl (lv_at hl 1 rfl) ?_
  refine g_cS (As := [.int v]) (n := 1) (rest := []) (wc := []) (w1 := []) (bytes := cX6_noWheel) (maxL := 1) (ret := (some .boolean)) hc hw hl.1 (m_X6_noWheel (l := l) (D := D) (E := E) (T := T) v) gX6_mend_X6_noWheel rfl (by decide +kernel) (by rw [hR]; exact ⟨Nat.le_of_ble_eq_true rfl, Nat.le_of_ble_eq_true rfl⟩) [] (by decide) rfl [] rfl rfl rfl rfl (Nat.le_of_ble_eq_true rfl) dX6_mend_6 ⟨Nat.zero_le _, Nat.zero_le _⟩ (fun H locs hw => ?_)
  have hw : g_W D A s [(o, .inr (6, [.int 0, u1, u2, u3, u4, u5, u6, u7, u8, u9, u10, u11, u12, u13, u14, u15, u16, u17, u18, u19, u20, u21, u22, u23, u24, u25, u26, u27, u28, u29, u30, u31, u32, u33, u34, u35]))] H locs := hw
  refine W.eq (congrArg (fun z => F0 m 9 ls (.int z :: [])) (show (b2i (outB v 0 3) : Int32) = 1 from (congrArg b2i ho))) ?_
  refine lv_if_eq (tgt := 14) hx hb dX6_mend_9 (by decide) (fun c_9 => absurd c_9 (by decide)) (fun c_9 => ?_)
  refine lv_iconst (v := (-1)) hx hb dX6_mend_12 (by decide) ?_
  exact g_iret hQ hc hw hr rfl rfl dX6_mend_13

theorem dX6_mend_14 : decode cX6_mend 14 = .ok (.aload_n 0, 1) := by decide +kernel
theorem dX6_mend_15 : decode cX6_mend 15 = .ok (.getfield 25, 3) := by decide +kernel
theorem dX6_mend_18 : decode cX6_mend 18 = .ok (.iconst 0, 1) := by decide +kernel
theorem dX6_mend_19 : decode cX6_mend 19 = .ok (.iaload, 1) := by decide +kernel
theorem dX6_mend_20 : decode cX6_mend 20 = .ok (.iload_n 1, 1) := by decide +kernel
theorem dX6_mend_21 : decode cX6_mend 21 = .ok (.invokestatic 139, 3) := by decide +kernel
theorem dX6_mend_24 : decode cX6_mend 24 = .ok (.ifCond .ne 6, 3) := by decide +kernel
theorem dX6_mend_27 : decode cX6_mend 27 = .ok (.bipush (-3), 2) := by decide +kernel
theorem dX6_mend_29 : decode cX6_mend 29 = .ok (.ireturn, 1) := by decide +kernel
set_option maxRecDepth 20000 in
theorem ggX6_mend_X6_has : GoodIn wsX6_mend wsX6_has := goodIn_r _ [13] rfl (by decide +kernel)
set_option maxRecDepth 20000 in
theorem gX6_mend_X6_has : GoodIn wsX6_mend (va_wsS RX6 139 yX6_has wsX6_has) := goodIn_app (goodIn_of _ (by decide +kernel)) ggX6_mend_X6_has
set_option maxRecDepth 100000 in
set_option maxHeartbeats 4000000 in
theorem m_X6_mend_no {l : Launch} {D : va_G} {E : Nat → ClassId} {T : Nat → Nat} (o : Nat) (pa : Nat) (i : Nat) (u0 : Value) (u1 : Value) (u2 : Value) (u3 : Value) (u4 : Value) (u5 : Value) (u6 : Value) (u7 : Value) (u8 : Value) (u9 : Value) (u10 : Value) (u12 : Value) (u13 : Value) (u14 : Value) (u15 : Value) (u16 : Value) (u17 : Value) (u18 : Value) (u19 : Value) (u20 : Value) (u21 : Value) (u22 : Value) (u23 : Value) (u24 : Value) (u25 : Value) (u26 : Value) (u27 : Value) (u28 : Value) (u29 : Value) (u30 : Value) (u31 : Value) (u32 : Value) (u33 : Value) (u34 : Value) (u35 : Value) (S : TS) (hi9 : i ≤ 3) (hd : sD S < 16) (hal : (sD S).testBit i = false) : g_M l D E T yX6_mend wsX6_mend 2 45 [.ref o, .int (nI i)] [(o, .inr (6, [u0, u1, u2, u3, u4, u5, u6, u7, u8, u9, u10, .ref pa, u12, u13, u14, u15, u16, u17, u18, u19, u20, u21, u22, u23, u24, u25, u26, u27, u28, u29, u30, u31, u32, u33, u34, u35])), (pa, .inl (E 0, 29, .inl (pgF S)))] [(o, .inr (6, [.int 0, u1, u2, u3, u4, u5, u6, u7, u8, u9, u10, .ref pa, u12, u13, u14, u15, u16, u17, u18, u19, u20, u21, u22, u23, u24, u25, u26, u27, u28, u29, u30, u31, u32, u33, u34, u35])), (pa, .inl (E 0, 29, .inl (pgF S)))] (some (.int (-3))) := by
  refine g_M.of (cc := cX6_mend) (nL := 2) (ret := (some .int)) (own := RX6) (lv := [(0, .ref o), (1, .int (nI i))]) (by decide) rfl rfl (Nat.le_of_ble_eq_true rfl) rfl ?_
  intro p e R s m args below meth c A Q H locs ls hR hQ hc hr hw hl
  have hx := hc.1
  have hb := hc.2.1
  have hts := hc.2.2.2.1
  have hown := hc.2.2.2.2.1
  refine lv_aload_n hx hb dX6_mend_0 rfl (lv_at hl 0 rfl) ?_
  refine lv_iconst (v := 0) hx hb dX6_mend_1 (by decide) ?_
  refine g_put (TT := TX6) hc hw inX6_mend_X6 tyX6 tyX6_ok nmX6 0 0 1 rfl rfl (by decide) rfl rfl rfl rfl (Nat.le_of_ble_eq_true rfl) dX6_mend_2 (fun H locs hw => ?_)
  have hw : g_W D A s [(o, .inr (6, [.int 0, u1, u2, u3, u4, u5, u6, u7, u8, u9, u10, .ref pa, u12, u13, u14, u15, u16, u17, u18, u19, u20, u21, u22, u23, u24, u25, u26, u27, u28, u29, u30, u31, u32, u33, u34, u35])), (pa, .inl (E 0, 29, .inl (pgF S)))] H locs := hw
  refine lv_iload_n hx hb dX6_mend_5 rfl (lv_at hl 1 rfl) ?_
  refine g_cS (As := [.int (nI i)]) (n := 1) (rest := []) (wc := []) (w1 := []) (bytes := cX6_noWheel) (maxL := 1) (ret := (some .boolean)) hc hw hl.1 (m_X6_noWheel (l := l) (D := D) (E := E) (T := T) (nI i)) gX6_mend_X6_noWheel rfl (by decide +kernel) (by rw [hR]; exact ⟨Nat.le_of_ble_eq_true rfl, Nat.le_of_ble_eq_true rfl⟩) [] (by decide) rfl [] rfl rfl rfl rfl (Nat.le_of_ble_eq_true rfl) dX6_mend_6 ⟨Nat.zero_le _, Nat.zero_le _⟩ (fun H locs hw => ?_)
  have hw : g_W D A s [(o, .inr (6, [.int 0, u1, u2, u3, u4, u5, u6, u7, u8, u9, u10, .ref pa, u12, u13, u14, u15, u16, u17, u18, u19, u20, u21, u22, u23, u24, u25, u26, u27, u28, u29, u30, u31, u32, u33, u34, u35])), (pa, .inl (E 0, 29, .inl (pgF S)))] H locs := hw
  refine W.eq (congrArg (fun z => F0 m 9 ls (.int z :: [])) (show (b2i (outB (nI i) 0 3) : Int32) = 0 from (congrArg b2i (out_nf (n := i) (a := 0) (b := 3) (by omega) hi9 (by decide))))) ?_
  refine lv_if_eq (tgt := 14) hx hb dX6_mend_9 (by decide) (fun c_9 => ?_) (fun c_9 => absurd c_9 (by decide))
  refine lv_aload_n hx hb dX6_mend_14 rfl (lv_at hl 0 rfl) ?_
  refine g_get (TT := TX6) hc hw inX6_mend_X6 0 11 2 rfl rfl (by decide) rfl rfl dX6_mend_15 ?_
  refine lv_iconst (v := 0) hx hb dX6_mend_18 (by decide) ?_
  refine g_ild hc hw 1 0 rfl rfl (by omega) (by decide) dX6_mend_19 ?_
  refine W.eq (congrArg (fun z => F0 m 20 ls (.int z :: [])) (show ((pgF S) 0 : Int32) = nI (sD S) from rfl)) ?_
  refine lv_iload_n hx hb dX6_mend_20 rfl (lv_at hl 1 rfl) ?_
  refine g_cS (As := [.int (nI (sD S)), .int (nI i)]) (n := 2) (rest := []) (wc := []) (w1 := []) (bytes := cX6_has) (maxL := 2) (ret := (some .boolean)) hc hw hl.1 (m_X6_has (l := l) (D := D) (E := E) (T := T) (sD S) i hd (by omega)) gX6_mend_X6_has rfl (by decide +kernel) (by rw [hR]; exact ⟨Nat.le_of_ble_eq_true rfl, Nat.le_of_ble_eq_true rfl⟩) [] (by decide) rfl [] rfl rfl rfl rfl (Nat.le_of_ble_eq_true rfl) dX6_mend_21 ⟨Nat.zero_le _, Nat.zero_le _⟩ (fun H locs hw => ?_)
  have hw : g_W D A s [(o, .inr (6, [.int 0, u1, u2, u3, u4, u5, u6, u7, u8, u9, u10, .ref pa, u12, u13, u14, u15, u16, u17, u18, u19, u20, u21, u22, u23, u24, u25, u26, u27, u28, u29, u30, u31, u32, u33, u34, u35])), (pa, .inl (E 0, 29, .inl (pgF S)))] H locs := hw
  refine W.eq (congrArg (fun z => F0 m 24 ls (.int z :: [])) (show (b2i ((sD S).testBit i) : Int32) = 0 from (congrArg b2i hal))) ?_
  refine lv_if_ne (tgt := 30) hx hb dX6_mend_24 (by decide) (fun c_24 => absurd c_24 (by decide)) (fun c_24 => ?_)
  refine lv_bipush (v := (-3)) hx hb dX6_mend_27 (by decide) ?_
  exact g_iret hQ hc hw hr rfl rfl dX6_mend_29

theorem dX6_mend_30 : decode cX6_mend 30 = .ok (.aload_n 0, 1) := by decide +kernel
theorem dX6_mend_31 : decode cX6_mend 31 = .ok (.invokevirtual 231, 3) := by decide +kernel
theorem dX6_mend_34 : decode cX6_mend 34 = .ok (.aload_n 0, 1) := by decide +kernel
theorem dX6_mend_35 : decode cX6_mend 35 = .ok (.getfield 25, 3) := by decide +kernel
theorem dX6_mend_38 : decode cX6_mend 38 = .ok (.iconst 0, 1) := by decide +kernel
theorem dX6_mend_39 : decode cX6_mend 39 = .ok (.dup2, 1) := by decide +kernel
theorem dX6_mend_40 : decode cX6_mend 40 = .ok (.iaload, 1) := by decide +kernel
theorem dX6_mend_41 : decode cX6_mend 41 = .ok (.iconst 1, 1) := by decide +kernel
theorem dX6_mend_42 : decode cX6_mend 42 = .ok (.iload_n 1, 1) := by decide +kernel
theorem dX6_mend_43 : decode cX6_mend 43 = .ok (.ishl, 1) := by decide +kernel
theorem dX6_mend_44 : decode cX6_mend 44 = .ok (.iconst (-1), 1) := by decide +kernel
theorem dX6_mend_45 : decode cX6_mend 45 = .ok (.ixor, 1) := by decide +kernel
theorem dX6_mend_46 : decode cX6_mend 46 = .ok (.iand, 1) := by decide +kernel
theorem dX6_mend_47 : decode cX6_mend 47 = .ok (.iastore, 1) := by decide +kernel
theorem dX6_mend_48 : decode cX6_mend 48 = .ok (.aload_n 0, 1) := by decide +kernel
theorem dX6_mend_49 : decode cX6_mend 49 = .ok (.getfield 25, 3) := by decide +kernel
theorem dX6_mend_52 : decode cX6_mend 52 = .ok (.iconst 0, 1) := by decide +kernel
theorem dX6_mend_53 : decode cX6_mend 53 = .ok (.iaload, 1) := by decide +kernel
theorem dX6_mend_54 : decode cX6_mend 54 = .ok (.invokestatic 202, 3) := by decide +kernel
theorem dX6_mend_57 : decode cX6_mend 57 = .ok (.ireturn, 1) := by decide +kernel
set_option maxRecDepth 20000 in
theorem ggX6_mend_X6_note : GoodIn wsX6_mend wsX6_note := goodIn_r _ [17, 18, 19, 20, 2, 21, 25, 26, 27, 28, 29, 30, 31, 32, 33, 34, 35, 36, 37, 38, 39, 40, 41, 42, 43, 44, 45, 46, 47, 48, 49, 50, 51, 52, 53, 54, 55, 56, 57, 58, 59, 60] rfl (by decide +kernel)
set_option maxRecDepth 20000 in
theorem gX6_mend_X6_note : GoodIn wsX6_mend (wsV RX6 231 RX6 yX6_note wsX6_note) := goodIn_app (goodIn_of _ (by decide +kernel)) ggX6_mend_X6_note
set_option maxRecDepth 20000 in
theorem ggX6_mend_X6_ones : GoodIn wsX6_mend wsX6_ones := goodIn_r _ [24] rfl (by decide +kernel)
set_option maxRecDepth 20000 in
theorem gX6_mend_X6_ones : GoodIn wsX6_mend (va_wsS RX6 202 yX6_ones wsX6_ones) := goodIn_app (goodIn_of _ (by decide +kernel)) ggX6_mend_X6_ones
set_option maxRecDepth 100000 in
set_option maxHeartbeats 4000000 in
theorem m_X6_mend {l : Launch} {D : va_G} {E : Nat → ClassId} {T : Nat → Nat} (o : Nat) (pa : Nat) (va : Nat) (bk : Nat) (bs : Nat) (d : Nat) (u0 : Value) (u1 : Value) (u2 : Value) (u3 : Value) (u4 : Value) (u5 : Value) (u6 : Value) (u7 : Value) (u8 : Value) (u9 : Value) (u10 : Value) (u13 : Value) (u14 : Value) (u18 : Value) (u19 : Value) (u20 : Value) (u21 : Value) (u22 : Value) (u23 : Value) (u24 : Value) (u25 : Value) (u26 : Value) (u27 : Value) (u28 : Value) (u29 : Value) (u30 : Value) (u31 : Value) (u32 : Value) (u33 : Value) (u34 : Value) (u35 : Value) (S : TS) (bb : Nat → Int32) (bf : Nat → UInt32) (B : Nat) (i : Nat) (hok : OkS B S) (hd9 : d ≤ 14) (hi9 : i ≤ 3) (hal : (sD S).testBit i = true) : g_M l D E T yX6_mend wsX6_mend 2 45 [.ref o, .int (nI i)] [(o, .inr (6, [u0, u1, u2, u3, u4, u5, u6, u7, u8, u9, u10, .ref pa, .ref va, u13, u14, .ref bk, .ref bs, .int (nI d), u18, u19, u20, u21, u22, u23, u24, u25, u26, u27, u28, u29, u30, u31, u32, u33, u34, u35])), (pa, .inl (E 0, 29, .inl (pgF S))), (va, .inl (E 1, 5, .inr (.inr (.inl (fl5 S))))), (bk, .inl (E 0, 406, .inl bb)), (bs, .inl (E 1, 70, .inr (.inr (.inl bf))))] [(o, .inr (6, [.int 0, u1, u2, u3, u4, u5, u6, u7, u8, u9, u10, .ref pa, .ref va, u13, u14, .ref bk, .ref bs, .int (nI (min d 13 + 1)), u18, u19, u20, u21, u22, u23, u24, u25, u26, u27, u28, u29, u30, u31, u32, u33, u34, u35])), (pa, .inl (E 0, 29, .inl (pgF (rvS S i)))), (va, .inl (E 1, 5, .inr (.inr (.inl (fl5 (rvS S i)))))), (bk, .inl (E 0, 406, .inl (noI d bb S))), (bs, .inl (E 1, 70, .inr (.inr (.inl (noF d bf S)))))] (some (.int (nI (pcn (sD (rvS S i)))))) := by
  refine g_M.of (cc := cX6_mend) (nL := 2) (ret := (some .int)) (own := RX6) (lv := [(0, .ref o), (1, .int (nI i))]) (by decide) rfl rfl (Nat.le_of_ble_eq_true rfl) rfl ?_
  intro p e R s m args below meth c A Q H locs ls hR hQ hc hr hw hl
  have hx := hc.1
  have hb := hc.2.1
  have hts := hc.2.2.2.1
  have hown := hc.2.2.2.2.1
  refine lv_aload_n hx hb dX6_mend_0 rfl (lv_at hl 0 rfl) ?_
  refine lv_iconst (v := 0) hx hb dX6_mend_1 (by decide) ?_
  refine g_put (TT := TX6) hc hw inX6_mend_X6 tyX6 tyX6_ok nmX6 0 0 1 rfl rfl (by decide) rfl rfl rfl rfl (Nat.le_of_ble_eq_true rfl) dX6_mend_2 (fun H locs hw => ?_)
  have hw : g_W D A s [(o, .inr (6, [.int 0, u1, u2, u3, u4, u5, u6, u7, u8, u9, u10, .ref pa, .ref va, u13, u14, .ref bk, .ref bs, .int (nI d), u18, u19, u20, u21, u22, u23, u24, u25, u26, u27, u28, u29, u30, u31, u32, u33, u34, u35])), (pa, .inl (E 0, 29, .inl (pgF S))), (va, .inl (E 1, 5, .inr (.inr (.inl (fl5 S))))), (bk, .inl (E 0, 406, .inl bb)), (bs, .inl (E 1, 70, .inr (.inr (.inl bf))))] H locs := hw
  refine lv_iload_n hx hb dX6_mend_5 rfl (lv_at hl 1 rfl) ?_
  refine g_cS (As := [.int (nI i)]) (n := 1) (rest := []) (wc := []) (w1 := []) (bytes := cX6_noWheel) (maxL := 1) (ret := (some .boolean)) hc hw hl.1 (m_X6_noWheel (l := l) (D := D) (E := E) (T := T) (nI i)) gX6_mend_X6_noWheel rfl (by decide +kernel) (by rw [hR]; exact ⟨Nat.le_of_ble_eq_true rfl, Nat.le_of_ble_eq_true rfl⟩) [] (by decide) rfl [] rfl rfl rfl rfl (Nat.le_of_ble_eq_true rfl) dX6_mend_6 ⟨Nat.zero_le _, Nat.zero_le _⟩ (fun H locs hw => ?_)
  have hw : g_W D A s [(o, .inr (6, [.int 0, u1, u2, u3, u4, u5, u6, u7, u8, u9, u10, .ref pa, .ref va, u13, u14, .ref bk, .ref bs, .int (nI d), u18, u19, u20, u21, u22, u23, u24, u25, u26, u27, u28, u29, u30, u31, u32, u33, u34, u35])), (pa, .inl (E 0, 29, .inl (pgF S))), (va, .inl (E 1, 5, .inr (.inr (.inl (fl5 S))))), (bk, .inl (E 0, 406, .inl bb)), (bs, .inl (E 1, 70, .inr (.inr (.inl bf))))] H locs := hw
  refine W.eq (congrArg (fun z => F0 m 9 ls (.int z :: [])) (show (b2i (outB (nI i) 0 3) : Int32) = 0 from (congrArg b2i (out_nf (n := i) (a := 0) (b := 3) (by omega) hi9 (by decide))))) ?_
  refine lv_if_eq (tgt := 14) hx hb dX6_mend_9 (by decide) (fun c_9 => ?_) (fun c_9 => absurd c_9 (by decide))
  refine lv_aload_n hx hb dX6_mend_14 rfl (lv_at hl 0 rfl) ?_
  refine g_get (TT := TX6) hc hw inX6_mend_X6 0 11 2 rfl rfl (by decide) rfl rfl dX6_mend_15 ?_
  refine lv_iconst (v := 0) hx hb dX6_mend_18 (by decide) ?_
  refine g_ild hc hw 1 0 rfl rfl (by omega) (by decide) dX6_mend_19 ?_
  refine W.eq (congrArg (fun z => F0 m 20 ls (.int z :: [])) (show ((pgF S) 0 : Int32) = nI (sD S) from rfl)) ?_
  refine lv_iload_n hx hb dX6_mend_20 rfl (lv_at hl 1 rfl) ?_
  refine g_cS (As := [.int (nI (sD S)), .int (nI i)]) (n := 2) (rest := []) (wc := []) (w1 := []) (bytes := cX6_has) (maxL := 2) (ret := (some .boolean)) hc hw hl.1 (m_X6_has (l := l) (D := D) (E := E) (T := T) (sD S) i hok.d (by omega)) gX6_mend_X6_has rfl (by decide +kernel) (by rw [hR]; exact ⟨Nat.le_of_ble_eq_true rfl, Nat.le_of_ble_eq_true rfl⟩) [] (by decide) rfl [] rfl rfl rfl rfl (Nat.le_of_ble_eq_true rfl) dX6_mend_21 ⟨Nat.zero_le _, Nat.zero_le _⟩ (fun H locs hw => ?_)
  have hw : g_W D A s [(o, .inr (6, [.int 0, u1, u2, u3, u4, u5, u6, u7, u8, u9, u10, .ref pa, .ref va, u13, u14, .ref bk, .ref bs, .int (nI d), u18, u19, u20, u21, u22, u23, u24, u25, u26, u27, u28, u29, u30, u31, u32, u33, u34, u35])), (pa, .inl (E 0, 29, .inl (pgF S))), (va, .inl (E 1, 5, .inr (.inr (.inl (fl5 S))))), (bk, .inl (E 0, 406, .inl bb)), (bs, .inl (E 1, 70, .inr (.inr (.inl bf))))] H locs := hw
  refine W.eq (congrArg (fun z => F0 m 24 ls (.int z :: [])) (show (b2i ((sD S).testBit i) : Int32) = 1 from (congrArg b2i hal))) ?_
  refine lv_if_ne (tgt := 30) hx hb dX6_mend_24 (by decide) (fun c_24 => ?_) (fun c_24 => absurd c_24 (by decide))
  refine lv_aload_n hx hb dX6_mend_30 rfl (lv_at hl 0 rfl) ?_
  refine g_cV (As := []) (n := 0) (rest := []) (wc := [(o, .inr (6, [.int 0, u1, u2, u3, u4, u5, u6, u7, u8, u9, u10, .ref pa, .ref va, u13, u14, .ref bk, .ref bs, .int (nI d), u18, u19, u20, u21, u22, u23, u24, u25, u26, u27, u28, u29, u30, u31, u32, u33, u34, u35])), (pa, .inl (E 0, 29, .inl (pgF S))), (va, .inl (E 1, 5, .inr (.inr (.inl (fl5 S))))), (bk, .inl (E 0, 406, .inl bb)), (bs, .inl (E 1, 70, .inr (.inr (.inl bf))))]) (w1 := [(o, .inr (6, [.int 0, u1, u2, u3, u4, u5, u6, u7, u8, u9, u10, .ref pa, .ref va, u13, u14, .ref bk, .ref bs, .int (nI (min d 13 + 1)), u18, u19, u20, u21, u22, u23, u24, u25, u26, u27, u28, u29, u30, u31, u32, u33, u34, u35])), (pa, .inl (E 0, 29, .inl (pgF S))), (va, .inl (E 1, 5, .inr (.inr (.inl (fl5 S))))), (bk, .inl (E 0, 406, .inl (noI d bb S))), (bs, .inl (E 1, 70, .inr (.inr (.inl (noF d bf S)))))]) (bytes := cX6_note) (maxL := 2) (ret := none) hc hw hl.1 (m_X6_note (l := l) (D := D) (E := E) (T := T) o pa va bk bs d (.int 0) u1 u2 u3 u4 u5 u6 u7 u8 u9 u10 u13 u14 u18 u19 u20 u21 u22 u23 u24 u25 u26 u27 u28 u29 u30 u31 u32 u33 u34 u35 S bb bf (by first | assumption | omega | decide)) gX6_mend_X6_note rfl (by decide +kernel) (by rw [hR]; exact ⟨Nat.le_of_ble_eq_true rfl, Nat.le_of_ble_eq_true rfl⟩) [0, 1, 2, 3, 4] 0 6 rfl rfl (by decide) rfl [o, pa, va, bk, bs] rfl rfl rfl rfl (Nat.le_of_ble_eq_true rfl) dX6_mend_31 ⟨Nat.zero_le _, Nat.zero_le _⟩ (fun H locs hw => ?_)
  have hw : g_W D A s [(o, .inr (6, [.int 0, u1, u2, u3, u4, u5, u6, u7, u8, u9, u10, .ref pa, .ref va, u13, u14, .ref bk, .ref bs, .int (nI (min d 13 + 1)), u18, u19, u20, u21, u22, u23, u24, u25, u26, u27, u28, u29, u30, u31, u32, u33, u34, u35])), (pa, .inl (E 0, 29, .inl (pgF S))), (va, .inl (E 1, 5, .inr (.inr (.inl (fl5 S))))), (bk, .inl (E 0, 406, .inl (noI d bb S))), (bs, .inl (E 1, 70, .inr (.inr (.inl (noF d bf S)))))] H locs := hw
  refine lv_aload_n hx hb dX6_mend_34 rfl (lv_at hl 0 rfl) ?_
  refine g_get (TT := TX6) hc hw inX6_mend_X6 0 11 2 rfl rfl (by decide) rfl rfl dX6_mend_35 ?_
  refine lv_iconst (v := 0) hx hb dX6_mend_38 (by decide) ?_
  refine lv_dup2_11 hx hb dX6_mend_39 rfl rfl ?_
  refine g_ild hc hw 1 0 rfl rfl (by omega) (by decide) dX6_mend_40 ?_
  refine W.eq (congrArg (fun z => F0 m 41 ls (.int z :: [.int 0, .ref pa])) (show ((pgF S) 0 : Int32) = nI (sD S) from rfl)) ?_
  refine lv_iconst (v := 1) hx hb dX6_mend_41 (by decide) ?_
  refine lv_iload_n hx hb dX6_mend_42 rfl (lv_at hl 1 rfl) ?_
  refine lv_ishl hx hb dX6_mend_43 ?_
  refine lv_iconst (v := (-1)) hx hb dX6_mend_44 (by decide) ?_
  refine lv_ixor hx hb dX6_mend_45 ?_
  refine lv_iand hx hb dX6_mend_46 ?_
  refine W.eq (congrArg (fun z => F0 m 47 ls (.int z :: [.int 0, .ref pa])) (show ((nI (sD S)) &&& (((1 : Int32) <<< ((nI i) &&& 31)) ^^^ (-1)) : Int32) = nI (dOut (sD S) i) from (g_out16 _ hok.d _ (by omega)))) ?_
  refine g_ist hc hw 1 0 rfl rfl (by omega) (by decide) dX6_mend_47 (fun H locs hw => ?_)
  have hw : g_W D A s [(o, .inr (6, [.int 0, u1, u2, u3, u4, u5, u6, u7, u8, u9, u10, .ref pa, .ref va, u13, u14, .ref bk, .ref bs, .int (nI (min d 13 + 1)), u18, u19, u20, u21, u22, u23, u24, u25, u26, u27, u28, u29, u30, u31, u32, u33, u34, u35])), (pa, .inl (E 0, 29, .inl (upd (pgF S) 0 (nI (dOut (sD S) i))))), (va, .inl (E 1, 5, .inr (.inr (.inl (fl5 S))))), (bk, .inl (E 0, 406, .inl (noI d bb S))), (bs, .inl (E 1, 70, .inr (.inr (.inl (noF d bf S)))))] H locs := hw
  rw [pg_D] at hw
  have hw : g_W D A s [(o, .inr (6, [.int 0, u1, u2, u3, u4, u5, u6, u7, u8, u9, u10, .ref pa, .ref va, u13, u14, .ref bk, .ref bs, .int (nI (min d 13 + 1)), u18, u19, u20, u21, u22, u23, u24, u25, u26, u27, u28, u29, u30, u31, u32, u33, u34, u35])), (pa, .inl (E 0, 29, .inl (pgF (wD S (dOut (sD S) i))))), (va, .inl (E 1, 5, .inr (.inr (.inl (fl5 S))))), (bk, .inl (E 0, 406, .inl (noI d bb S))), (bs, .inl (E 1, 70, .inr (.inr (.inl (noF d bf S)))))] H locs := hw
  refine lv_aload_n hx hb dX6_mend_48 rfl (lv_at hl 0 rfl) ?_
  refine g_get (TT := TX6) hc hw inX6_mend_X6 0 11 2 rfl rfl (by decide) rfl rfl dX6_mend_49 ?_
  refine lv_iconst (v := 0) hx hb dX6_mend_52 (by decide) ?_
  refine g_ild hc hw 1 0 rfl rfl (by omega) (by decide) dX6_mend_53 ?_
  refine W.eq (congrArg (fun z => F0 m 54 ls (.int z :: [])) (show ((pgF (wD S (dOut (sD S) i))) 0 : Int32) = nI (sD (wD S (dOut (sD S) i))) from rfl)) ?_
  refine g_cS (As := [.int (nI (sD (wD S (dOut (sD S) i))))]) (n := 1) (rest := []) (wc := []) (w1 := []) (bytes := cX6_ones) (maxL := 3) (ret := (some .int)) hc hw hl.1 (m_X6_ones (l := l) (D := D) (E := E) (T := T) (sD (wD S (dOut (sD S) i))) ((hok.rv (show i < 4 by omega)).d)) gX6_mend_X6_ones rfl (by decide +kernel) (by rw [hR]; exact ⟨Nat.le_of_ble_eq_true rfl, Nat.le_of_ble_eq_true rfl⟩) [] (by decide) rfl [] rfl rfl rfl rfl (Nat.le_of_ble_eq_true rfl) dX6_mend_54 ⟨Nat.zero_le _, Nat.zero_le _⟩ (fun H locs hw => ?_)
  have hw : g_W D A s [(o, .inr (6, [.int 0, u1, u2, u3, u4, u5, u6, u7, u8, u9, u10, .ref pa, .ref va, u13, u14, .ref bk, .ref bs, .int (nI (min d 13 + 1)), u18, u19, u20, u21, u22, u23, u24, u25, u26, u27, u28, u29, u30, u31, u32, u33, u34, u35])), (pa, .inl (E 0, 29, .inl (pgF (wD S (dOut (sD S) i))))), (va, .inl (E 1, 5, .inr (.inr (.inl (fl5 S))))), (bk, .inl (E 0, 406, .inl (noI d bb S))), (bs, .inl (E 1, 70, .inr (.inr (.inl (noF d bf S)))))] H locs := hw
  exact g_iret hQ hc hw hr rfl rfl dX6_mend_57

theorem dX6_free_0 : decode cX6_free 0 = .ok (.aload_n 0, 1) := by decide +kernel
theorem dX6_free_1 : decode cX6_free 1 = .ok (.iconst 0, 1) := by decide +kernel
theorem dX6_free_2 : decode cX6_free 2 = .ok (.putfield 88, 3) := by decide +kernel
theorem dX6_free_5 : decode cX6_free 5 = .ok (.aload_n 0, 1) := by decide +kernel
theorem dX6_free_6 : decode cX6_free 6 = .ok (.getfield 25, 3) := by decide +kernel
theorem dX6_free_9 : decode cX6_free 9 = .ok (.iconst 1, 1) := by decide +kernel
theorem dX6_free_10 : decode cX6_free 10 = .ok (.iaload, 1) := by decide +kernel
theorem dX6_free_11 : decode cX6_free 11 = .ok (.ifCond .eq 16, 3) := by decide +kernel
theorem dX6_free_14 : decode cX6_free 14 = .ok (.aload_n 0, 1) := by decide +kernel
theorem dX6_free_15 : decode cX6_free 15 = .ok (.getfield 25, 3) := by decide +kernel
theorem dX6_free_18 : decode cX6_free 18 = .ok (.iconst 0, 1) := by decide +kernel
theorem dX6_free_19 : decode cX6_free 19 = .ok (.iaload, 1) := by decide +kernel
theorem dX6_free_20 : decode cX6_free 20 = .ok (.invokestatic 202, 3) := by decide +kernel
theorem dX6_free_23 : decode cX6_free 23 = .ok (.iconst 1, 1) := by decide +kernel
theorem dX6_free_24 : decode cX6_free 24 = .ok (.if_icmp .le 6, 3) := by decide +kernel
theorem dX6_free_27 : decode cX6_free 27 = .ok (.bipush (-3), 2) := by decide +kernel
theorem dX6_free_29 : decode cX6_free 29 = .ok (.ireturn, 1) := by decide +kernel
set_option maxRecDepth 20000 in
theorem ggX6_free_X6_ones : GoodIn wsX6_free wsX6_ones := goodIn_r _ [7] rfl (by decide +kernel)
set_option maxRecDepth 20000 in
theorem gX6_free_X6_ones : GoodIn wsX6_free (va_wsS RX6 202 yX6_ones wsX6_ones) := goodIn_app (goodIn_of _ (by decide +kernel)) ggX6_free_X6_ones
theorem inX6_free_X6 : ∀ w ∈ u_ws RX6 TX6 36, w ∈ wsX6_free := fun w h => List.mem_cons_of_mem _ (List.mem_append_right _ h)
set_option maxRecDepth 100000 in
set_option maxHeartbeats 4000000 in
theorem m_X6_free_no {l : Launch} {D : va_G} {E : Nat → ClassId} {T : Nat → Nat} (o : Nat) (pa : Nat) (B : Nat) (u0 : Value) (u1 : Value) (u2 : Value) (u3 : Value) (u4 : Value) (u5 : Value) (u6 : Value) (u7 : Value) (u8 : Value) (u9 : Value) (u10 : Value) (u12 : Value) (u13 : Value) (u14 : Value) (u15 : Value) (u16 : Value) (u17 : Value) (u18 : Value) (u19 : Value) (u20 : Value) (u21 : Value) (u22 : Value) (u23 : Value) (u24 : Value) (u25 : Value) (u26 : Value) (u27 : Value) (u28 : Value) (u29 : Value) (u30 : Value) (u31 : Value) (u32 : Value) (u33 : Value) (u34 : Value) (u35 : Value) (S : TS) (hok : OkS B S) (hm : sM S = 1 → 1 < pcn (sD S)) : g_M l D E T yX6_free wsX6_free 1 22 [.ref o] [(o, .inr (6, [u0, u1, u2, u3, u4, u5, u6, u7, u8, u9, u10, .ref pa, u12, u13, u14, u15, u16, u17, u18, u19, u20, u21, u22, u23, u24, u25, u26, u27, u28, u29, u30, u31, u32, u33, u34, u35])), (pa, .inl (E 0, 29, .inl (pgF S)))] [(o, .inr (6, [.int 0, u1, u2, u3, u4, u5, u6, u7, u8, u9, u10, .ref pa, u12, u13, u14, u15, u16, u17, u18, u19, u20, u21, u22, u23, u24, u25, u26, u27, u28, u29, u30, u31, u32, u33, u34, u35])), (pa, .inl (E 0, 29, .inl (pgF S)))] (some (.int (-3))) := by
  refine g_M.of (cc := cX6_free) (nL := 1) (ret := (some .int)) (own := RX6) (lv := [(0, .ref o)]) (by decide) rfl rfl (Nat.le_of_ble_eq_true rfl) rfl ?_
  intro p e R s m args below meth c A Q H locs ls hR hQ hc hr hw hl
  have hx := hc.1
  have hb := hc.2.1
  have hts := hc.2.2.2.1
  have hown := hc.2.2.2.2.1
  refine lv_aload_n hx hb dX6_free_0 rfl (lv_at hl 0 rfl) ?_
  refine lv_iconst (v := 0) hx hb dX6_free_1 (by decide) ?_
  refine g_put (TT := TX6) hc hw inX6_free_X6 tyX6 tyX6_ok nmX6 0 0 1 rfl rfl (by decide) rfl rfl rfl rfl (Nat.le_of_ble_eq_true rfl) dX6_free_2 (fun H locs hw => ?_)
  have hw : g_W D A s [(o, .inr (6, [.int 0, u1, u2, u3, u4, u5, u6, u7, u8, u9, u10, .ref pa, u12, u13, u14, u15, u16, u17, u18, u19, u20, u21, u22, u23, u24, u25, u26, u27, u28, u29, u30, u31, u32, u33, u34, u35])), (pa, .inl (E 0, 29, .inl (pgF S)))] H locs := hw
  refine lv_aload_n hx hb dX6_free_5 rfl (lv_at hl 0 rfl) ?_
  refine g_get (TT := TX6) hc hw inX6_free_X6 0 11 2 rfl rfl (by decide) rfl rfl dX6_free_6 ?_
  refine lv_iconst (v := 1) hx hb dX6_free_9 (by decide) ?_
  refine g_ild hc hw 1 1 rfl rfl (by omega) (by decide) dX6_free_10 ?_
  refine W.eq (congrArg (fun z => F0 m 11 ls (.int z :: [])) (show ((pgF S) 1 : Int32) = sM S from rfl)) ?_
  refine lv_if_eq (tgt := 27) hx hb dX6_free_11 (by decide) (fun c_11 => ?_) (fun c_11 => ?_)
  · skip
    refine lv_bipush (v := (-3)) hx hb dX6_free_27 (by decide) ?_
    exact g_iret hQ hc hw hr rfl rfl dX6_free_29
  · skip
    refine lv_aload_n hx hb dX6_free_14 rfl (lv_at hl 0 rfl) ?_
    refine g_get (TT := TX6) hc hw inX6_free_X6 0 11 2 rfl rfl (by decide) rfl rfl dX6_free_15 ?_
    refine lv_iconst (v := 0) hx hb dX6_free_18 (by decide) ?_
    refine g_ild hc hw 1 0 rfl rfl (by omega) (by decide) dX6_free_19 ?_
    refine W.eq (congrArg (fun z => F0 m 20 ls (.int z :: [])) (show ((pgF S) 0 : Int32) = nI (sD S) from rfl)) ?_
    refine g_cS (As := [.int (nI (sD S))]) (n := 1) (rest := []) (wc := []) (w1 := []) (bytes := cX6_ones) (maxL := 3) (ret := (some .int)) hc hw hl.1 (m_X6_ones (l := l) (D := D) (E := E) (T := T) (sD S) hok.d) gX6_free_X6_ones rfl (by decide +kernel) (by rw [hR]; exact ⟨Nat.le_of_ble_eq_true rfl, Nat.le_of_ble_eq_true rfl⟩) [] (by decide) rfl [] rfl rfl rfl rfl (Nat.le_of_ble_eq_true rfl) dX6_free_20 ⟨Nat.zero_le _, Nat.zero_le _⟩ (fun H locs hw => ?_)
    have hw : g_W D A s [(o, .inr (6, [.int 0, u1, u2, u3, u4, u5, u6, u7, u8, u9, u10, .ref pa, u12, u13, u14, u15, u16, u17, u18, u19, u20, u21, u22, u23, u24, u25, u26, u27, u28, u29, u30, u31, u32, u33, u34, u35])), (pa, .inl (E 0, 29, .inl (pgF S)))] H locs := hw
    refine lv_iconst (v := 1) hx hb dX6_free_23 (by decide) ?_
    refine lv_icmp_le (tgt := 30) hx hb dX6_free_24 (by decide) (fun c_24 => absurd c_24 (Int32.not_le.mpr (nI_lt (hm (hok.2.1.resolve_left c_11)) (by have := pcn_lt _ hok.d; omega)))) (fun c_24 => ?_)
    refine lv_bipush (v := (-3)) hx hb dX6_free_27 (by decide) ?_
    exact g_iret hQ hc hw hr rfl rfl dX6_free_29

theorem dX6_free_30 : decode cX6_free 30 = .ok (.aload_n 0, 1) := by decide +kernel
theorem dX6_free_31 : decode cX6_free 31 = .ok (.invokevirtual 231, 3) := by decide +kernel
theorem dX6_free_34 : decode cX6_free 34 = .ok (.aload_n 0, 1) := by decide +kernel
theorem dX6_free_35 : decode cX6_free 35 = .ok (.getfield 25, 3) := by decide +kernel
theorem dX6_free_38 : decode cX6_free 38 = .ok (.iconst 1, 1) := by decide +kernel
theorem dX6_free_39 : decode cX6_free 39 = .ok (.iconst 0, 1) := by decide +kernel
theorem dX6_free_40 : decode cX6_free 40 = .ok (.iastore, 1) := by decide +kernel
theorem dX6_free_41 : decode cX6_free 41 = .ok (.aload_n 0, 1) := by decide +kernel
theorem dX6_free_42 : decode cX6_free 42 = .ok (.getfield 25, 3) := by decide +kernel
theorem dX6_free_45 : decode cX6_free 45 = .ok (.iconst 5, 1) := by decide +kernel
theorem dX6_free_46 : decode cX6_free 46 = .ok (.iconst 0, 1) := by decide +kernel
theorem dX6_free_47 : decode cX6_free 47 = .ok (.iastore, 1) := by decide +kernel
theorem dX6_free_48 : decode cX6_free 48 = .ok (.aload_n 0, 1) := by decide +kernel
theorem dX6_free_49 : decode cX6_free 49 = .ok (.getfield 28, 3) := by decide +kernel
theorem dX6_free_52 : decode cX6_free 52 = .ok (.iconst 4, 1) := by decide +kernel
theorem dX6_free_53 : decode cX6_free 53 = .ok (.fconst 0, 1) := by decide +kernel
theorem dX6_free_54 : decode cX6_free 54 = .ok (.fastore, 1) := by decide +kernel
theorem dX6_free_55 : decode cX6_free 55 = .ok (.aload_n 0, 1) := by decide +kernel
theorem dX6_free_56 : decode cX6_free 56 = .ok (.getfield 25, 3) := by decide +kernel
theorem dX6_free_59 : decode cX6_free 59 = .ok (.iconst 0, 1) := by decide +kernel
theorem dX6_free_60 : decode cX6_free 60 = .ok (.iaload, 1) := by decide +kernel
theorem dX6_free_61 : decode cX6_free 61 = .ok (.invokestatic 202, 3) := by decide +kernel
theorem dX6_free_64 : decode cX6_free 64 = .ok (.ireturn, 1) := by decide +kernel
set_option maxRecDepth 20000 in
theorem ggX6_free_X6_note : GoodIn wsX6_free wsX6_note := goodIn_r _ [11, 12, 13, 14, 2, 3, 15, 16, 17, 18, 19, 20, 21, 22, 23, 24, 25, 26, 27, 28, 29, 30, 31, 32, 33, 34, 35, 36, 37, 38, 39, 40, 41, 42, 43, 44, 45, 46, 47, 48, 49, 50] rfl (by decide +kernel)
set_option maxRecDepth 20000 in
theorem gX6_free_X6_note : GoodIn wsX6_free (wsV RX6 231 RX6 yX6_note wsX6_note) := goodIn_app (goodIn_of _ (by decide +kernel)) ggX6_free_X6_note
set_option maxRecDepth 100000 in
set_option maxHeartbeats 4000000 in
theorem m_X6_free {l : Launch} {D : va_G} {E : Nat → ClassId} {T : Nat → Nat} (o : Nat) (pa : Nat) (va : Nat) (bk : Nat) (bs : Nat) (d : Nat) (u0 : Value) (u1 : Value) (u2 : Value) (u3 : Value) (u4 : Value) (u5 : Value) (u6 : Value) (u7 : Value) (u8 : Value) (u9 : Value) (u10 : Value) (u13 : Value) (u14 : Value) (u18 : Value) (u19 : Value) (u20 : Value) (u21 : Value) (u22 : Value) (u23 : Value) (u24 : Value) (u25 : Value) (u26 : Value) (u27 : Value) (u28 : Value) (u29 : Value) (u30 : Value) (u31 : Value) (u32 : Value) (u33 : Value) (u34 : Value) (u35 : Value) (S : TS) (bb : Nat → Int32) (bf : Nat → UInt32) (B : Nat) (hok : OkS B S) (hd9 : d ≤ 14) (hm : sM S = 1) (hp9 : pcn (sD S) ≤ 1) : g_M l D E T yX6_free wsX6_free 1 22 [.ref o] [(o, .inr (6, [u0, u1, u2, u3, u4, u5, u6, u7, u8, u9, u10, .ref pa, .ref va, u13, u14, .ref bk, .ref bs, .int (nI d), u18, u19, u20, u21, u22, u23, u24, u25, u26, u27, u28, u29, u30, u31, u32, u33, u34, u35])), (pa, .inl (E 0, 29, .inl (pgF S))), (va, .inl (E 1, 5, .inr (.inr (.inl (fl5 S))))), (bk, .inl (E 0, 406, .inl bb)), (bs, .inl (E 1, 70, .inr (.inr (.inl bf))))] [(o, .inr (6, [.int 0, u1, u2, u3, u4, u5, u6, u7, u8, u9, u10, .ref pa, .ref va, u13, u14, .ref bk, .ref bs, .int (nI (min d 13 + 1)), u18, u19, u20, u21, u22, u23, u24, u25, u26, u27, u28, u29, u30, u31, u32, u33, u34, u35])), (pa, .inl (E 0, 29, .inl (pgF (frS S)))), (va, .inl (E 1, 5, .inr (.inr (.inl (fl5 (frS S)))))), (bk, .inl (E 0, 406, .inl (noI d bb S))), (bs, .inl (E 1, 70, .inr (.inr (.inl (noF d bf S)))))] (some (.int (nI (pcn (sD S))))) := by
  refine g_M.of (cc := cX6_free) (nL := 1) (ret := (some .int)) (own := RX6) (lv := [(0, .ref o)]) (by decide) rfl rfl (Nat.le_of_ble_eq_true rfl) rfl ?_
  intro p e R s m args below meth c A Q H locs ls hR hQ hc hr hw hl
  have hx := hc.1
  have hb := hc.2.1
  have hts := hc.2.2.2.1
  have hown := hc.2.2.2.2.1
  refine lv_aload_n hx hb dX6_free_0 rfl (lv_at hl 0 rfl) ?_
  refine lv_iconst (v := 0) hx hb dX6_free_1 (by decide) ?_
  refine g_put (TT := TX6) hc hw inX6_free_X6 tyX6 tyX6_ok nmX6 0 0 1 rfl rfl (by decide) rfl rfl rfl rfl (Nat.le_of_ble_eq_true rfl) dX6_free_2 (fun H locs hw => ?_)
  have hw : g_W D A s [(o, .inr (6, [.int 0, u1, u2, u3, u4, u5, u6, u7, u8, u9, u10, .ref pa, .ref va, u13, u14, .ref bk, .ref bs, .int (nI d), u18, u19, u20, u21, u22, u23, u24, u25, u26, u27, u28, u29, u30, u31, u32, u33, u34, u35])), (pa, .inl (E 0, 29, .inl (pgF S))), (va, .inl (E 1, 5, .inr (.inr (.inl (fl5 S))))), (bk, .inl (E 0, 406, .inl bb)), (bs, .inl (E 1, 70, .inr (.inr (.inl bf))))] H locs := hw
  refine lv_aload_n hx hb dX6_free_5 rfl (lv_at hl 0 rfl) ?_
  refine g_get (TT := TX6) hc hw inX6_free_X6 0 11 2 rfl rfl (by decide) rfl rfl dX6_free_6 ?_
  refine lv_iconst (v := 1) hx hb dX6_free_9 (by decide) ?_
  refine g_ild hc hw 1 1 rfl rfl (by omega) (by decide) dX6_free_10 ?_
  refine W.eq (congrArg (fun z => F0 m 11 ls (.int z :: [])) (show ((pgF S) 1 : Int32) = sM S from rfl)) ?_
  refine lv_if_eq (tgt := 27) hx hb dX6_free_11 (by decide) (fun c_11 => absurd (hm.symm.trans c_11) (by decide)) (fun c_11 => ?_)
  refine lv_aload_n hx hb dX6_free_14 rfl (lv_at hl 0 rfl) ?_
  refine g_get (TT := TX6) hc hw inX6_free_X6 0 11 2 rfl rfl (by decide) rfl rfl dX6_free_15 ?_
  refine lv_iconst (v := 0) hx hb dX6_free_18 (by decide) ?_
  refine g_ild hc hw 1 0 rfl rfl (by omega) (by decide) dX6_free_19 ?_
  refine W.eq (congrArg (fun z => F0 m 20 ls (.int z :: [])) (show ((pgF S) 0 : Int32) = nI (sD S) from rfl)) ?_
  refine g_cS (As := [.int (nI (sD S))]) (n := 1) (rest := []) (wc := []) (w1 := []) (bytes := cX6_ones) (maxL := 3) (ret := (some .int)) hc hw hl.1 (m_X6_ones (l := l) (D := D) (E := E) (T := T) (sD S) hok.d) gX6_free_X6_ones rfl (by decide +kernel) (by rw [hR]; exact ⟨Nat.le_of_ble_eq_true rfl, Nat.le_of_ble_eq_true rfl⟩) [] (by decide) rfl [] rfl rfl rfl rfl (Nat.le_of_ble_eq_true rfl) dX6_free_20 ⟨Nat.zero_le _, Nat.zero_le _⟩ (fun H locs hw => ?_)
  have hw : g_W D A s [(o, .inr (6, [.int 0, u1, u2, u3, u4, u5, u6, u7, u8, u9, u10, .ref pa, .ref va, u13, u14, .ref bk, .ref bs, .int (nI d), u18, u19, u20, u21, u22, u23, u24, u25, u26, u27, u28, u29, u30, u31, u32, u33, u34, u35])), (pa, .inl (E 0, 29, .inl (pgF S))), (va, .inl (E 1, 5, .inr (.inr (.inl (fl5 S))))), (bk, .inl (E 0, 406, .inl bb)), (bs, .inl (E 1, 70, .inr (.inr (.inl bf))))] H locs := hw
  refine lv_iconst (v := 1) hx hb dX6_free_23 (by decide) ?_
  refine lv_icmp_le (tgt := 30) hx hb dX6_free_24 (by decide) (fun c_24 => ?_) (fun c_24 => absurd (nI_le hp9 (by decide)) c_24)
  refine lv_aload_n hx hb dX6_free_30 rfl (lv_at hl 0 rfl) ?_
  refine g_cV (As := []) (n := 0) (rest := []) (wc := [(o, .inr (6, [.int 0, u1, u2, u3, u4, u5, u6, u7, u8, u9, u10, .ref pa, .ref va, u13, u14, .ref bk, .ref bs, .int (nI d), u18, u19, u20, u21, u22, u23, u24, u25, u26, u27, u28, u29, u30, u31, u32, u33, u34, u35])), (pa, .inl (E 0, 29, .inl (pgF S))), (va, .inl (E 1, 5, .inr (.inr (.inl (fl5 S))))), (bk, .inl (E 0, 406, .inl bb)), (bs, .inl (E 1, 70, .inr (.inr (.inl bf))))]) (w1 := [(o, .inr (6, [.int 0, u1, u2, u3, u4, u5, u6, u7, u8, u9, u10, .ref pa, .ref va, u13, u14, .ref bk, .ref bs, .int (nI (min d 13 + 1)), u18, u19, u20, u21, u22, u23, u24, u25, u26, u27, u28, u29, u30, u31, u32, u33, u34, u35])), (pa, .inl (E 0, 29, .inl (pgF S))), (va, .inl (E 1, 5, .inr (.inr (.inl (fl5 S))))), (bk, .inl (E 0, 406, .inl (noI d bb S))), (bs, .inl (E 1, 70, .inr (.inr (.inl (noF d bf S)))))]) (bytes := cX6_note) (maxL := 2) (ret := none) hc hw hl.1 (m_X6_note (l := l) (D := D) (E := E) (T := T) o pa va bk bs d (.int 0) u1 u2 u3 u4 u5 u6 u7 u8 u9 u10 u13 u14 u18 u19 u20 u21 u22 u23 u24 u25 u26 u27 u28 u29 u30 u31 u32 u33 u34 u35 S bb bf (by first | assumption | omega | decide)) gX6_free_X6_note rfl (by decide +kernel) (by rw [hR]; exact ⟨Nat.le_of_ble_eq_true rfl, Nat.le_of_ble_eq_true rfl⟩) [0, 1, 2, 3, 4] 0 6 rfl rfl (by decide) rfl [o, pa, va, bk, bs] rfl rfl rfl rfl (Nat.le_of_ble_eq_true rfl) dX6_free_31 ⟨Nat.zero_le _, Nat.zero_le _⟩ (fun H locs hw => ?_)
  have hw : g_W D A s [(o, .inr (6, [.int 0, u1, u2, u3, u4, u5, u6, u7, u8, u9, u10, .ref pa, .ref va, u13, u14, .ref bk, .ref bs, .int (nI (min d 13 + 1)), u18, u19, u20, u21, u22, u23, u24, u25, u26, u27, u28, u29, u30, u31, u32, u33, u34, u35])), (pa, .inl (E 0, 29, .inl (pgF S))), (va, .inl (E 1, 5, .inr (.inr (.inl (fl5 S))))), (bk, .inl (E 0, 406, .inl (noI d bb S))), (bs, .inl (E 1, 70, .inr (.inr (.inl (noF d bf S)))))] H locs := hw
  refine lv_aload_n hx hb dX6_free_34 rfl (lv_at hl 0 rfl) ?_
  refine g_get (TT := TX6) hc hw inX6_free_X6 0 11 2 rfl rfl (by decide) rfl rfl dX6_free_35 ?_
  refine lv_iconst (v := 1) hx hb dX6_free_38 (by decide) ?_
  refine lv_iconst (v := 0) hx hb dX6_free_39 (by decide) ?_
  refine g_ist hc hw 1 1 rfl rfl (by omega) (by decide) dX6_free_40 (fun H locs hw => ?_)
  have hw : g_W D A s [(o, .inr (6, [.int 0, u1, u2, u3, u4, u5, u6, u7, u8, u9, u10, .ref pa, .ref va, u13, u14, .ref bk, .ref bs, .int (nI (min d 13 + 1)), u18, u19, u20, u21, u22, u23, u24, u25, u26, u27, u28, u29, u30, u31, u32, u33, u34, u35])), (pa, .inl (E 0, 29, .inl (upd (pgF S) 1 0))), (va, .inl (E 1, 5, .inr (.inr (.inl (fl5 S))))), (bk, .inl (E 0, 406, .inl (noI d bb S))), (bs, .inl (E 1, 70, .inr (.inr (.inl (noF d bf S)))))] H locs := hw
  rw [pg_M] at hw
  have hw : g_W D A s [(o, .inr (6, [.int 0, u1, u2, u3, u4, u5, u6, u7, u8, u9, u10, .ref pa, .ref va, u13, u14, .ref bk, .ref bs, .int (nI (min d 13 + 1)), u18, u19, u20, u21, u22, u23, u24, u25, u26, u27, u28, u29, u30, u31, u32, u33, u34, u35])), (pa, .inl (E 0, 29, .inl (pgF (wM S 0)))), (va, .inl (E 1, 5, .inr (.inr (.inl (fl5 S))))), (bk, .inl (E 0, 406, .inl (noI d bb S))), (bs, .inl (E 1, 70, .inr (.inr (.inl (noF d bf S)))))] H locs := hw
  refine lv_aload_n hx hb dX6_free_41 rfl (lv_at hl 0 rfl) ?_
  refine g_get (TT := TX6) hc hw inX6_free_X6 0 11 2 rfl rfl (by decide) rfl rfl dX6_free_42 ?_
  refine lv_iconst (v := 5) hx hb dX6_free_45 (by decide) ?_
  refine lv_iconst (v := 0) hx hb dX6_free_46 (by decide) ?_
  refine g_ist hc hw 1 5 rfl rfl (by omega) (by decide) dX6_free_47 (fun H locs hw => ?_)
  have hw : g_W D A s [(o, .inr (6, [.int 0, u1, u2, u3, u4, u5, u6, u7, u8, u9, u10, .ref pa, .ref va, u13, u14, .ref bk, .ref bs, .int (nI (min d 13 + 1)), u18, u19, u20, u21, u22, u23, u24, u25, u26, u27, u28, u29, u30, u31, u32, u33, u34, u35])), (pa, .inl (E 0, 29, .inl (upd (pgF (wM S 0)) 5 0))), (va, .inl (E 1, 5, .inr (.inr (.inl (fl5 S))))), (bk, .inl (E 0, 406, .inl (noI d bb S))), (bs, .inl (E 1, 70, .inr (.inr (.inl (noF d bf S)))))] H locs := hw
  rw [pg_R] at hw
  have hw : g_W D A s [(o, .inr (6, [.int 0, u1, u2, u3, u4, u5, u6, u7, u8, u9, u10, .ref pa, .ref va, u13, u14, .ref bk, .ref bs, .int (nI (min d 13 + 1)), u18, u19, u20, u21, u22, u23, u24, u25, u26, u27, u28, u29, u30, u31, u32, u33, u34, u35])), (pa, .inl (E 0, 29, .inl (pgF (wR (wM S 0) 0)))), (va, .inl (E 1, 5, .inr (.inr (.inl (fl5 S))))), (bk, .inl (E 0, 406, .inl (noI d bb S))), (bs, .inl (E 1, 70, .inr (.inr (.inl (noF d bf S)))))] H locs := hw
  refine lv_aload_n hx hb dX6_free_48 rfl (lv_at hl 0 rfl) ?_
  refine g_get (TT := TX6) hc hw inX6_free_X6 0 12 3 rfl rfl (by decide) rfl rfl dX6_free_49 ?_
  refine lv_iconst (v := 4) hx hb dX6_free_52 (by decide) ?_
  refine lv_fconst0 hx hb dX6_free_53 ?_
  refine g_fst hc hw 2 4 rfl rfl (by omega) (by decide) dX6_free_54 (fun H locs hw => ?_)
  have hw : g_W D A s [(o, .inr (6, [.int 0, u1, u2, u3, u4, u5, u6, u7, u8, u9, u10, .ref pa, .ref va, u13, u14, .ref bk, .ref bs, .int (nI (min d 13 + 1)), u18, u19, u20, u21, u22, u23, u24, u25, u26, u27, u28, u29, u30, u31, u32, u33, u34, u35])), (pa, .inl (E 0, 29, .inl (pgF (wR (wM S 0) 0)))), (va, .inl (E 1, 5, .inr (.inr (.inl (vf_upd (fl5 S) 4 FP.fconst0))))), (bk, .inl (E 0, 406, .inl (noI d bb S))), (bs, .inl (E 1, 70, .inr (.inr (.inl (noF d bf S)))))] H locs := hw
  rw [fl_P] at hw
  have hw : g_W D A s [(o, .inr (6, [.int 0, u1, u2, u3, u4, u5, u6, u7, u8, u9, u10, .ref pa, .ref va, u13, u14, .ref bk, .ref bs, .int (nI (min d 13 + 1)), u18, u19, u20, u21, u22, u23, u24, u25, u26, u27, u28, u29, u30, u31, u32, u33, u34, u35])), (pa, .inl (E 0, 29, .inl (pgF (wR (wM S 0) 0)))), (va, .inl (E 1, 5, .inr (.inr (.inl (fl5 (wP S FP.fconst0)))))), (bk, .inl (E 0, 406, .inl (noI d bb S))), (bs, .inl (E 1, 70, .inr (.inr (.inl (noF d bf S)))))] H locs := hw
  refine lv_aload_n hx hb dX6_free_55 rfl (lv_at hl 0 rfl) ?_
  refine g_get (TT := TX6) hc hw inX6_free_X6 0 11 2 rfl rfl (by decide) rfl rfl dX6_free_56 ?_
  refine lv_iconst (v := 0) hx hb dX6_free_59 (by decide) ?_
  refine g_ild hc hw 1 0 rfl rfl (by omega) (by decide) dX6_free_60 ?_
  refine W.eq (congrArg (fun z => F0 m 61 ls (.int z :: [])) (show ((pgF (wR (wM S 0) 0)) 0 : Int32) = nI (sD (wR (wM S 0) 0)) from rfl)) ?_
  refine g_cS (As := [.int (nI (sD (wR (wM S 0) 0)))]) (n := 1) (rest := []) (wc := []) (w1 := []) (bytes := cX6_ones) (maxL := 3) (ret := (some .int)) hc hw hl.1 (m_X6_ones (l := l) (D := D) (E := E) (T := T) (sD (wR (wM S 0) 0)) hok.d) gX6_free_X6_ones rfl (by decide +kernel) (by rw [hR]; exact ⟨Nat.le_of_ble_eq_true rfl, Nat.le_of_ble_eq_true rfl⟩) [] (by decide) rfl [] rfl rfl rfl rfl (Nat.le_of_ble_eq_true rfl) dX6_free_61 ⟨Nat.zero_le _, Nat.zero_le _⟩ (fun H locs hw => ?_)
  have hw : g_W D A s [(o, .inr (6, [.int 0, u1, u2, u3, u4, u5, u6, u7, u8, u9, u10, .ref pa, .ref va, u13, u14, .ref bk, .ref bs, .int (nI (min d 13 + 1)), u18, u19, u20, u21, u22, u23, u24, u25, u26, u27, u28, u29, u30, u31, u32, u33, u34, u35])), (pa, .inl (E 0, 29, .inl (pgF (wR (wM S 0) 0)))), (va, .inl (E 1, 5, .inr (.inr (.inl (fl5 (wP S FP.fconst0)))))), (bk, .inl (E 0, 406, .inl (noI d bb S))), (bs, .inl (E 1, 70, .inr (.inr (.inl (noF d bf S)))))] H locs := hw
  exact g_iret hQ hc hw hr rfl (by rw [show frS S = wP (wR (wM S 0) 0) FP.fconst0 from rfl, pgF_wP]; rfl) dX6_free_64

theorem dX6_set_0 : decode cX6_set 0 = .ok (.aload_n 0, 1) := by decide +kernel
theorem dX6_set_1 : decode cX6_set 1 = .ok (.iconst 0, 1) := by decide +kernel
theorem dX6_set_2 : decode cX6_set 2 = .ok (.putfield 88, 3) := by decide +kernel
theorem dX6_set_5 : decode cX6_set 5 = .ok (.iload_n 1, 1) := by decide +kernel
theorem dX6_set_6 : decode cX6_set 6 = .ok (.i2l, 1) := by decide +kernel
theorem dX6_set_7 : decode cX6_set 7 = .ok (.lconst 0, 1) := by decide +kernel
theorem dX6_set_8 : decode cX6_set 8 = .ok (.ldc2_w 92, 3) := by decide +kernel
theorem dX6_set_11 : decode cX6_set 11 = .ok (.invokestatic 94, 3) := by decide +kernel
theorem dX6_set_14 : decode cX6_set 14 = .ok (.ifCond .eq 44, 3) := by decide +kernel
theorem dX6_set_58 : decode cX6_set 58 = .ok (.bipush (-2), 2) := by decide +kernel
theorem dX6_set_60 : decode cX6_set 60 = .ok (.ireturn, 1) := by decide +kernel
set_option maxRecDepth 20000 in
theorem ggX6_set_X6_in : GoodIn wsX6_set wsX6_in := goodIn_r _ [10] rfl (by decide +kernel)
set_option maxRecDepth 20000 in
theorem gX6_set_X6_in : GoodIn wsX6_set (va_wsS RX6 94 yX6_in wsX6_in) := goodIn_app (goodIn_of _ (by decide +kernel)) ggX6_set_X6_in
theorem inX6_set_X6 : ∀ w ∈ u_ws RX6 TX6 36, w ∈ wsX6_set := fun w h => List.mem_cons_of_mem _ (List.mem_append_right _ h)
set_option maxRecDepth 100000 in
set_option maxHeartbeats 4000000 in
theorem m_X6_set_out {l : Launch} {D : va_G} {E : Nat → ClassId} {T : Nat → Nat} (o : Nat) (u0 : Value) (u1 : Value) (u2 : Value) (u3 : Value) (u4 : Value) (u5 : Value) (u6 : Value) (u7 : Value) (u8 : Value) (u9 : Value) (u10 : Value) (u11 : Value) (u12 : Value) (u13 : Value) (u14 : Value) (u15 : Value) (u16 : Value) (u17 : Value) (u18 : Value) (u19 : Value) (u20 : Value) (u21 : Value) (u22 : Value) (u23 : Value) (u24 : Value) (u25 : Value) (u26 : Value) (u27 : Value) (u28 : Value) (u29 : Value) (u30 : Value) (u31 : Value) (u32 : Value) (u33 : Value) (u34 : Value) (u35 : Value) (v : Int32) (w : Int32) (ho : outB v 0 3 = true) : g_M l D E T yX6_set wsX6_set 1 25 [.ref o, .int v, .int w] [(o, .inr (6, [u0, u1, u2, u3, u4, u5, u6, u7, u8, u9, u10, u11, u12, u13, u14, u15, u16, u17, u18, u19, u20, u21, u22, u23, u24, u25, u26, u27, u28, u29, u30, u31, u32, u33, u34, u35]))] [(o, .inr (6, [.int 0, u1, u2, u3, u4, u5, u6, u7, u8, u9, u10, u11, u12, u13, u14, u15, u16, u17, u18, u19, u20, u21, u22, u23, u24, u25, u26, u27, u28, u29, u30, u31, u32, u33, u34, u35]))] (some (.int (-2))) := by
  refine g_M.of (cc := cX6_set) (nL := 4) (ret := (some .int)) (own := RX6) (lv := [(0, .ref o), (1, .int v), (2, .int w)]) (by decide) rfl rfl (Nat.le_of_ble_eq_true rfl) rfl ?_
  intro p e R s m args below meth c A Q H locs ls hR hQ hc hr hw hl
  have hx := hc.1
  have hb := hc.2.1
  have hts := hc.2.2.2.1
  have hown := hc.2.2.2.2.1
  refine lv_aload_n hx hb dX6_set_0 rfl (lv_at hl 0 rfl) ?_
  refine lv_iconst (v := 0) hx hb dX6_set_1 (by decide) ?_
  refine g_put (TT := TX6) hc hw inX6_set_X6 tyX6 tyX6_ok nmX6 0 0 1 rfl rfl (by decide) rfl rfl rfl rfl (Nat.le_of_ble_eq_true rfl) dX6_set_2 (fun H locs hw => ?_)
  have hw : g_W D A s [(o, .inr (6, [.int 0, u1, u2, u3, u4, u5, u6, u7, u8, u9, u10, u11, u12, u13, u14, u15, u16, u17, u18, u19, u20, u21, u22, u23, u24, u25, u26, u27, u28, u29, u30, u31, u32, u33, u34, u35]))] H locs := hw
  refine lv_iload_n hx hb dX6_set_5 rfl (lv_at hl 1 rfl) ?_
  refine lv_i2l hx hb dX6_set_6 rfl ?_
  refine lv_lconst (v := 0) hx hb dX6_set_7 (by decide) ?_
  refine lv_ldc2 (v := 3) hx hb hown (hts _ (List.mem_of_getElem? (i := 2) rfl)) dX6_set_8 ?_
  refine g_cS (As := [.long v.toInt64, .long 0, .long 3]) (n := 3) (rest := []) (wc := []) (w1 := []) (bytes := cX6_in) (maxL := 6) (ret := (some .boolean)) hc hw hl.1 (m_X6_in (l := l) (D := D) (E := E) (T := T) v.toInt64 0 3) gX6_set_X6_in rfl (by decide +kernel) (by rw [hR]; exact ⟨Nat.le_of_ble_eq_true rfl, Nat.le_of_ble_eq_true rfl⟩) [] (by decide) rfl [] rfl rfl rfl rfl (Nat.le_of_ble_eq_true rfl) dX6_set_11 ⟨Nat.zero_le _, Nat.zero_le _⟩ (fun H locs hw => ?_)
  have hw : g_W D A s [(o, .inr (6, [.int 0, u1, u2, u3, u4, u5, u6, u7, u8, u9, u10, u11, u12, u13, u14, u15, u16, u17, u18, u19, u20, u21, u22, u23, u24, u25, u26, u27, u28, u29, u30, u31, u32, u33, u34, u35]))] H locs := hw
  refine W.eq (congrArg (fun z => F0 m 14 ls (.int z :: [])) (show (b2i (inL v.toInt64 0 3) : Int32) = 0 from (congrArg b2i (in_o (a := 0) (b := 3) ho (by decide) (by decide))))) ?_
  refine lv_if_eq (tgt := 58) hx hb dX6_set_14 (by decide) (fun c_14 => ?_) (fun c_14 => absurd c_14 (by decide))
  refine lv_bipush (v := (-2)) hx hb dX6_set_58 (by decide) ?_
  exact g_iret hQ hc hw hr rfl rfl dX6_set_60

theorem dX6_set_17 : decode cX6_set 17 = .ok (.iload_n 2, 1) := by decide +kernel
theorem dX6_set_18 : decode cX6_set 18 = .ok (.i2l, 1) := by decide +kernel
theorem dX6_set_19 : decode cX6_set 19 = .ok (.iload_n 1, 1) := by decide +kernel
theorem dX6_set_20 : decode cX6_set 20 = .ok (.ifCond .ne 9, 3) := by decide +kernel
theorem dX6_set_23 : decode cX6_set 23 = .ok (.ldc2_w 241, 3) := by decide +kernel
theorem dX6_set_26 : decode cX6_set 26 = .ok (.goto 13, 3) := by decide +kernel
theorem dX6_set_29 : decode cX6_set 29 = .ok (.iload_n 1, 1) := by decide +kernel
theorem dX6_set_30 : decode cX6_set 30 = .ok (.iconst 3, 1) := by decide +kernel
theorem dX6_set_31 : decode cX6_set 31 = .ok (.if_icmp .ne 7, 3) := by decide +kernel
theorem dX6_set_34 : decode cX6_set 34 = .ok (.lconst 1, 1) := by decide +kernel
theorem dX6_set_35 : decode cX6_set 35 = .ok (.goto 4, 3) := by decide +kernel
theorem dX6_set_38 : decode cX6_set 38 = .ok (.lconst 0, 1) := by decide +kernel
theorem dX6_set_39 : decode cX6_set 39 = .ok (.iload_n 1, 1) := by decide +kernel
theorem dX6_set_40 : decode cX6_set 40 = .ok (.ifCond .ne 9, 3) := by decide +kernel
theorem dX6_set_43 : decode cX6_set 43 = .ok (.ldc2_w 229, 3) := by decide +kernel
theorem dX6_set_46 : decode cX6_set 46 = .ok (.goto 6, 3) := by decide +kernel
theorem dX6_set_49 : decode cX6_set 49 = .ok (.ldc2_w 103, 3) := by decide +kernel
theorem dX6_set_52 : decode cX6_set 52 = .ok (.invokestatic 94, 3) := by decide +kernel
theorem dX6_set_55 : decode cX6_set 55 = .ok (.ifCond .ne 6, 3) := by decide +kernel
set_option maxRecDepth 100000 in
set_option maxHeartbeats 4000000 in
theorem m_X6_set_no {l : Launch} {D : va_G} {E : Nat → ClassId} {T : Nat → Nat} (o : Nat) (k : Nat) (u0 : Value) (u1 : Value) (u2 : Value) (u3 : Value) (u4 : Value) (u5 : Value) (u6 : Value) (u7 : Value) (u8 : Value) (u9 : Value) (u10 : Value) (u11 : Value) (u12 : Value) (u13 : Value) (u14 : Value) (u15 : Value) (u16 : Value) (u17 : Value) (u18 : Value) (u19 : Value) (u20 : Value) (u21 : Value) (u22 : Value) (u23 : Value) (u24 : Value) (u25 : Value) (u26 : Value) (u27 : Value) (u28 : Value) (u29 : Value) (u30 : Value) (u31 : Value) (u32 : Value) (u33 : Value) (u34 : Value) (u35 : Value) (w : Int32) (hk : k ≤ 3) (ho : outB w (g_tv 3 k) (g_tv 4 k) = true) : g_M l D E T yX6_set wsX6_set 1 25 [.ref o, .int (nI k), .int w] [(o, .inr (6, [u0, u1, u2, u3, u4, u5, u6, u7, u8, u9, u10, u11, u12, u13, u14, u15, u16, u17, u18, u19, u20, u21, u22, u23, u24, u25, u26, u27, u28, u29, u30, u31, u32, u33, u34, u35]))] [(o, .inr (6, [.int 0, u1, u2, u3, u4, u5, u6, u7, u8, u9, u10, u11, u12, u13, u14, u15, u16, u17, u18, u19, u20, u21, u22, u23, u24, u25, u26, u27, u28, u29, u30, u31, u32, u33, u34, u35]))] (some (.int (-2))) := by
  refine g_M.of (cc := cX6_set) (nL := 4) (ret := (some .int)) (own := RX6) (lv := [(0, .ref o), (1, .int (nI k)), (2, .int w)]) (by decide) rfl rfl (Nat.le_of_ble_eq_true rfl) rfl ?_
  intro p e R s m args below meth c A Q H locs ls hR hQ hc hr hw hl
  have hx := hc.1
  have hb := hc.2.1
  have hts := hc.2.2.2.1
  have hown := hc.2.2.2.2.1
  refine lv_aload_n hx hb dX6_set_0 rfl (lv_at hl 0 rfl) ?_
  refine lv_iconst (v := 0) hx hb dX6_set_1 (by decide) ?_
  refine g_put (TT := TX6) hc hw inX6_set_X6 tyX6 tyX6_ok nmX6 0 0 1 rfl rfl (by decide) rfl rfl rfl rfl (Nat.le_of_ble_eq_true rfl) dX6_set_2 (fun H locs hw => ?_)
  have hw : g_W D A s [(o, .inr (6, [.int 0, u1, u2, u3, u4, u5, u6, u7, u8, u9, u10, u11, u12, u13, u14, u15, u16, u17, u18, u19, u20, u21, u22, u23, u24, u25, u26, u27, u28, u29, u30, u31, u32, u33, u34, u35]))] H locs := hw
  refine lv_iload_n hx hb dX6_set_5 rfl (lv_at hl 1 rfl) ?_
  refine lv_i2l hx hb dX6_set_6 rfl ?_
  refine lv_lconst (v := 0) hx hb dX6_set_7 (by decide) ?_
  refine lv_ldc2 (v := 3) hx hb hown (hts _ (List.mem_of_getElem? (i := 2) rfl)) dX6_set_8 ?_
  refine g_cS (As := [.long ((nI k).toInt64), .long 0, .long 3]) (n := 3) (rest := []) (wc := []) (w1 := []) (bytes := cX6_in) (maxL := 6) (ret := (some .boolean)) hc hw hl.1 (m_X6_in (l := l) (D := D) (E := E) (T := T) ((nI k).toInt64) 0 3) gX6_set_X6_in rfl (by decide +kernel) (by rw [hR]; exact ⟨Nat.le_of_ble_eq_true rfl, Nat.le_of_ble_eq_true rfl⟩) [] (by decide) rfl [] rfl rfl rfl rfl (Nat.le_of_ble_eq_true rfl) dX6_set_11 ⟨Nat.zero_le _, Nat.zero_le _⟩ (fun H locs hw => ?_)
  have hw : g_W D A s [(o, .inr (6, [.int 0, u1, u2, u3, u4, u5, u6, u7, u8, u9, u10, u11, u12, u13, u14, u15, u16, u17, u18, u19, u20, u21, u22, u23, u24, u25, u26, u27, u28, u29, u30, u31, u32, u33, u34, u35]))] H locs := hw
  refine W.eq (congrArg (fun z => F0 m 14 ls (.int z :: [])) (show (b2i (inL ((nI k).toInt64) 0 3) : Int32) = 1 from (congrArg b2i (in_i (out_nf (n := k) (a := 0) (b := 3) (by omega) hk (by decide)) (by decide) (by decide))))) ?_
  refine lv_if_eq (tgt := 58) hx hb dX6_set_14 (by decide) (fun c_14 => absurd c_14 (by decide)) (fun c_14 => ?_)
  refine lv_iload_n hx hb dX6_set_17 rfl (lv_at hl 2 rfl) ?_
  refine lv_i2l hx hb dX6_set_18 rfl ?_
  refine lv_iload_n hx hb dX6_set_19 rfl (lv_at hl 1 rfl) ?_
  refine lv_if_ne (tgt := 29) hx hb dX6_set_20 (by decide) (fun c_20 => ?_) (fun c_20 => ?_)
  · skip
    have n_20 : ¬ k = 0 := nf_neT rfl rfl (by omega) (by omega) c_20
    refine lv_iload_n hx hb dX6_set_29 rfl (lv_at hl 1 rfl) ?_
    refine lv_iconst (v := 3) hx hb dX6_set_30 (by decide) ?_
    refine lv_icmp_ne (tgt := 38) hx hb dX6_set_31 (by decide) (fun c_31 => ?_) (fun c_31 => ?_)
    · skip
      have n_31 : ¬ k = 3 := nf_neT rfl rfl (by omega) (by omega) c_31
      refine lv_lconst (v := 0) hx hb dX6_set_38 (by decide) ?_
      refine lv_iload_n hx hb dX6_set_39 rfl (lv_at hl 1 rfl) ?_
      refine lv_if_ne (tgt := 49) hx hb dX6_set_40 (by decide) (fun c_40 => ?_) (fun c_40 => absurd c_40 c_20)
      refine lv_ldc2 (v := 9) hx hb hown (hts _ (List.mem_of_getElem? (i := 5) rfl)) dX6_set_49 ?_
      refine g_cS (As := [.long w.toInt64, .long 0, .long 9]) (n := 3) (rest := []) (wc := []) (w1 := []) (bytes := cX6_in) (maxL := 6) (ret := (some .boolean)) hc hw hl.1 (m_X6_in (l := l) (D := D) (E := E) (T := T) w.toInt64 0 9) gX6_set_X6_in rfl (by decide +kernel) (by rw [hR]; exact ⟨Nat.le_of_ble_eq_true rfl, Nat.le_of_ble_eq_true rfl⟩) [] (by decide) rfl [] rfl rfl rfl rfl (Nat.le_of_ble_eq_true rfl) dX6_set_52 ⟨Nat.zero_le _, Nat.zero_le _⟩ (fun H locs hw => ?_)
      have hw : g_W D A s [(o, .inr (6, [.int 0, u1, u2, u3, u4, u5, u6, u7, u8, u9, u10, u11, u12, u13, u14, u15, u16, u17, u18, u19, u20, u21, u22, u23, u24, u25, u26, u27, u28, u29, u30, u31, u32, u33, u34, u35]))] H locs := hw
      refine W.eq (congrArg (fun z => F0 m 55 ls (.int z :: [])) (show (b2i (inL w.toInt64 0 9) : Int32) = 0 from (congrArg b2i (in_o (a := 0) (b := 9) (by rcases (show k = 1 ∨ k = 2 by omega) with rfl | rfl <;> exact ho) (by decide) (by decide))))) ?_
      refine lv_if_ne (tgt := 61) hx hb dX6_set_55 (by decide) (fun c_55 => absurd c_55 (by decide)) (fun c_55 => ?_)
      refine lv_bipush (v := (-2)) hx hb dX6_set_58 (by decide) ?_
      exact g_iret hQ hc hw hr rfl rfl dX6_set_60
    · skip
      have n_31 : k = 3 := nf_neF rfl rfl (by omega) (by omega) c_31
      refine lv_lconst (v := 1) hx hb dX6_set_34 (by decide) ?_
      refine lv_goto (tgt := 39) hx hb dX6_set_35 (by decide) ?_
      refine lv_iload_n hx hb dX6_set_39 rfl (lv_at hl 1 rfl) ?_
      refine lv_if_ne (tgt := 49) hx hb dX6_set_40 (by decide) (fun c_40 => ?_) (fun c_40 => absurd c_40 c_20)
      refine lv_ldc2 (v := 9) hx hb hown (hts _ (List.mem_of_getElem? (i := 5) rfl)) dX6_set_49 ?_
      refine g_cS (As := [.long w.toInt64, .long 1, .long 9]) (n := 3) (rest := []) (wc := []) (w1 := []) (bytes := cX6_in) (maxL := 6) (ret := (some .boolean)) hc hw hl.1 (m_X6_in (l := l) (D := D) (E := E) (T := T) w.toInt64 1 9) gX6_set_X6_in rfl (by decide +kernel) (by rw [hR]; exact ⟨Nat.le_of_ble_eq_true rfl, Nat.le_of_ble_eq_true rfl⟩) [] (by decide) rfl [] rfl rfl rfl rfl (Nat.le_of_ble_eq_true rfl) dX6_set_52 ⟨Nat.zero_le _, Nat.zero_le _⟩ (fun H locs hw => ?_)
      have hw : g_W D A s [(o, .inr (6, [.int 0, u1, u2, u3, u4, u5, u6, u7, u8, u9, u10, u11, u12, u13, u14, u15, u16, u17, u18, u19, u20, u21, u22, u23, u24, u25, u26, u27, u28, u29, u30, u31, u32, u33, u34, u35]))] H locs := hw
      refine W.eq (congrArg (fun z => F0 m 55 ls (.int z :: [])) (show (b2i (inL w.toInt64 1 9) : Int32) = 0 from (congrArg b2i (in_o (a := 1) (b := 9) (by rw [n_31] at ho; exact ho) (by decide) (by decide))))) ?_
      refine lv_if_ne (tgt := 61) hx hb dX6_set_55 (by decide) (fun c_55 => absurd c_55 (by decide)) (fun c_55 => ?_)
      refine lv_bipush (v := (-2)) hx hb dX6_set_58 (by decide) ?_
      exact g_iret hQ hc hw hr rfl rfl dX6_set_60
  · skip
    have n_20 : k = 0 := nf_neF rfl rfl (by omega) (by omega) c_20
    refine lv_ldc2 (v := 10) hx hb hown (hts _ (List.mem_of_getElem? (i := 3) rfl)) dX6_set_23 ?_
    refine lv_goto (tgt := 39) hx hb dX6_set_26 (by decide) ?_
    refine lv_iload_n hx hb dX6_set_39 rfl (lv_at hl 1 rfl) ?_
    refine lv_if_ne (tgt := 49) hx hb dX6_set_40 (by decide) (fun c_40 => absurd (by rw [n_20]; rfl) c_40) (fun c_40 => ?_)
    refine lv_ldc2 (v := 99) hx hb hown (hts _ (List.mem_of_getElem? (i := 4) rfl)) dX6_set_43 ?_
    refine lv_goto (tgt := 52) hx hb dX6_set_46 (by decide) ?_
    refine g_cS (As := [.long w.toInt64, .long 10, .long 99]) (n := 3) (rest := []) (wc := []) (w1 := []) (bytes := cX6_in) (maxL := 6) (ret := (some .boolean)) hc hw hl.1 (m_X6_in (l := l) (D := D) (E := E) (T := T) w.toInt64 10 99) gX6_set_X6_in rfl (by decide +kernel) (by rw [hR]; exact ⟨Nat.le_of_ble_eq_true rfl, Nat.le_of_ble_eq_true rfl⟩) [] (by decide) rfl [] rfl rfl rfl rfl (Nat.le_of_ble_eq_true rfl) dX6_set_52 ⟨Nat.zero_le _, Nat.zero_le _⟩ (fun H locs hw => ?_)
    have hw : g_W D A s [(o, .inr (6, [.int 0, u1, u2, u3, u4, u5, u6, u7, u8, u9, u10, u11, u12, u13, u14, u15, u16, u17, u18, u19, u20, u21, u22, u23, u24, u25, u26, u27, u28, u29, u30, u31, u32, u33, u34, u35]))] H locs := hw
    refine W.eq (congrArg (fun z => F0 m 55 ls (.int z :: [])) (show (b2i (inL w.toInt64 10 99) : Int32) = 0 from (congrArg b2i (in_o (a := 10) (b := 99) (by rw [n_20] at ho; exact ho) (by decide) (by decide))))) ?_
    refine lv_if_ne (tgt := 61) hx hb dX6_set_55 (by decide) (fun c_55 => absurd c_55 (by decide)) (fun c_55 => ?_)
    refine lv_bipush (v := (-2)) hx hb dX6_set_58 (by decide) ?_
    exact g_iret hQ hc hw hr rfl rfl dX6_set_60

theorem dX6_set_61 : decode cX6_set 61 = .ok (.aload_n 0, 1) := by decide +kernel
theorem dX6_set_62 : decode cX6_set 62 = .ok (.invokevirtual 231, 3) := by decide +kernel
theorem dX6_set_65 : decode cX6_set 65 = .ok (.aload_n 0, 1) := by decide +kernel
theorem dX6_set_66 : decode cX6_set 66 = .ok (.getfield 25, 3) := by decide +kernel
theorem dX6_set_69 : decode cX6_set 69 = .ok (.bipush 7, 2) := by decide +kernel
theorem dX6_set_71 : decode cX6_set 71 = .ok (.iload_n 1, 1) := by decide +kernel
theorem dX6_set_72 : decode cX6_set 72 = .ok (.iadd, 1) := by decide +kernel
theorem dX6_set_73 : decode cX6_set 73 = .ok (.iaload, 1) := by decide +kernel
theorem dX6_set_74 : decode cX6_set 74 = .ok (.istore_n 3, 1) := by decide +kernel
theorem dX6_set_75 : decode cX6_set 75 = .ok (.aload_n 0, 1) := by decide +kernel
theorem dX6_set_76 : decode cX6_set 76 = .ok (.getfield 25, 3) := by decide +kernel
theorem dX6_set_79 : decode cX6_set 79 = .ok (.bipush 7, 2) := by decide +kernel
theorem dX6_set_81 : decode cX6_set 81 = .ok (.iload_n 1, 1) := by decide +kernel
theorem dX6_set_82 : decode cX6_set 82 = .ok (.iadd, 1) := by decide +kernel
theorem dX6_set_83 : decode cX6_set 83 = .ok (.iload_n 2, 1) := by decide +kernel
theorem dX6_set_84 : decode cX6_set 84 = .ok (.iastore, 1) := by decide +kernel
theorem dX6_set_85 : decode cX6_set 85 = .ok (.iload_n 3, 1) := by decide +kernel
theorem dX6_set_86 : decode cX6_set 86 = .ok (.ireturn, 1) := by decide +kernel
set_option maxRecDepth 20000 in
theorem ggX6_set_X6_note : GoodIn wsX6_set wsX6_note := goodIn_r _ [14, 15, 16, 17, 6, 18, 19, 20, 21, 22, 23, 24, 25, 26, 27, 28, 29, 30, 31, 32, 33, 34, 35, 36, 37, 38, 39, 40, 41, 42, 43, 44, 45, 46, 47, 48, 49, 50, 51, 52, 53, 54] rfl (by decide +kernel)
set_option maxRecDepth 20000 in
theorem gX6_set_X6_note : GoodIn wsX6_set (wsV RX6 231 RX6 yX6_note wsX6_note) := goodIn_app (goodIn_of _ (by decide +kernel)) ggX6_set_X6_note
set_option maxRecDepth 100000 in
set_option maxHeartbeats 4000000 in
theorem m_X6_set {l : Launch} {D : va_G} {E : Nat → ClassId} {T : Nat → Nat} (o : Nat) (pa : Nat) (va : Nat) (bk : Nat) (bs : Nat) (d : Nat) (u0 : Value) (u1 : Value) (u2 : Value) (u3 : Value) (u4 : Value) (u5 : Value) (u6 : Value) (u7 : Value) (u8 : Value) (u9 : Value) (u10 : Value) (u13 : Value) (u14 : Value) (u18 : Value) (u19 : Value) (u20 : Value) (u21 : Value) (u22 : Value) (u23 : Value) (u24 : Value) (u25 : Value) (u26 : Value) (u27 : Value) (u28 : Value) (u29 : Value) (u30 : Value) (u31 : Value) (u32 : Value) (u33 : Value) (u34 : Value) (u35 : Value) (S : TS) (bb : Nat → Int32) (bf : Nat → UInt32) (B : Nat) (k : Nat) (w : Int32) (hok : OkS B S) (hd9 : d ≤ 14) (hk : k ≤ 3) (ho : outB w (g_tv 3 k) (g_tv 4 k) = false) : g_M l D E T yX6_set wsX6_set 1 25 [.ref o, .int (nI k), .int w] [(o, .inr (6, [u0, u1, u2, u3, u4, u5, u6, u7, u8, u9, u10, .ref pa, .ref va, u13, u14, .ref bk, .ref bs, .int (nI d), u18, u19, u20, u21, u22, u23, u24, u25, u26, u27, u28, u29, u30, u31, u32, u33, u34, u35])), (pa, .inl (E 0, 29, .inl (pgF S))), (va, .inl (E 1, 5, .inr (.inr (.inl (fl5 S))))), (bk, .inl (E 0, 406, .inl bb)), (bs, .inl (E 1, 70, .inr (.inr (.inl bf))))] [(o, .inr (6, [.int 0, u1, u2, u3, u4, u5, u6, u7, u8, u9, u10, .ref pa, .ref va, u13, u14, .ref bk, .ref bs, .int (nI (min d 13 + 1)), u18, u19, u20, u21, u22, u23, u24, u25, u26, u27, u28, u29, u30, u31, u32, u33, u34, u35])), (pa, .inl (E 0, 29, .inl (pgF (stS S k w)))), (va, .inl (E 1, 5, .inr (.inr (.inl (fl5 (stS S k w)))))), (bk, .inl (E 0, 406, .inl (noI d bb S))), (bs, .inl (E 1, 70, .inr (.inr (.inl (noF d bf S)))))] (some (.int (sT S k))) := by
  refine g_M.of (cc := cX6_set) (nL := 4) (ret := (some .int)) (own := RX6) (lv := [(0, .ref o), (1, .int (nI k)), (2, .int w)]) (by decide) rfl rfl (Nat.le_of_ble_eq_true rfl) rfl ?_
  intro p e R s m args below meth c A Q H locs ls hR hQ hc hr hw hl
  have hx := hc.1
  have hb := hc.2.1
  have hts := hc.2.2.2.1
  have hown := hc.2.2.2.2.1
  refine lv_aload_n hx hb dX6_set_0 rfl (lv_at hl 0 rfl) ?_
  refine lv_iconst (v := 0) hx hb dX6_set_1 (by decide) ?_
  refine g_put (TT := TX6) hc hw inX6_set_X6 tyX6 tyX6_ok nmX6 0 0 1 rfl rfl (by decide) rfl rfl rfl rfl (Nat.le_of_ble_eq_true rfl) dX6_set_2 (fun H locs hw => ?_)
  have hw : g_W D A s [(o, .inr (6, [.int 0, u1, u2, u3, u4, u5, u6, u7, u8, u9, u10, .ref pa, .ref va, u13, u14, .ref bk, .ref bs, .int (nI d), u18, u19, u20, u21, u22, u23, u24, u25, u26, u27, u28, u29, u30, u31, u32, u33, u34, u35])), (pa, .inl (E 0, 29, .inl (pgF S))), (va, .inl (E 1, 5, .inr (.inr (.inl (fl5 S))))), (bk, .inl (E 0, 406, .inl bb)), (bs, .inl (E 1, 70, .inr (.inr (.inl bf))))] H locs := hw
  refine lv_iload_n hx hb dX6_set_5 rfl (lv_at hl 1 rfl) ?_
  refine lv_i2l hx hb dX6_set_6 rfl ?_
  refine lv_lconst (v := 0) hx hb dX6_set_7 (by decide) ?_
  refine lv_ldc2 (v := 3) hx hb hown (hts _ (List.mem_of_getElem? (i := 2) rfl)) dX6_set_8 ?_
  refine g_cS (As := [.long ((nI k).toInt64), .long 0, .long 3]) (n := 3) (rest := []) (wc := []) (w1 := []) (bytes := cX6_in) (maxL := 6) (ret := (some .boolean)) hc hw hl.1 (m_X6_in (l := l) (D := D) (E := E) (T := T) ((nI k).toInt64) 0 3) gX6_set_X6_in rfl (by decide +kernel) (by rw [hR]; exact ⟨Nat.le_of_ble_eq_true rfl, Nat.le_of_ble_eq_true rfl⟩) [] (by decide) rfl [] rfl rfl rfl rfl (Nat.le_of_ble_eq_true rfl) dX6_set_11 ⟨Nat.zero_le _, Nat.zero_le _⟩ (fun H locs hw => ?_)
  have hw : g_W D A s [(o, .inr (6, [.int 0, u1, u2, u3, u4, u5, u6, u7, u8, u9, u10, .ref pa, .ref va, u13, u14, .ref bk, .ref bs, .int (nI d), u18, u19, u20, u21, u22, u23, u24, u25, u26, u27, u28, u29, u30, u31, u32, u33, u34, u35])), (pa, .inl (E 0, 29, .inl (pgF S))), (va, .inl (E 1, 5, .inr (.inr (.inl (fl5 S))))), (bk, .inl (E 0, 406, .inl bb)), (bs, .inl (E 1, 70, .inr (.inr (.inl bf))))] H locs := hw
  refine W.eq (congrArg (fun z => F0 m 14 ls (.int z :: [])) (show (b2i (inL ((nI k).toInt64) 0 3) : Int32) = 1 from (congrArg b2i (in_i (out_nf (n := k) (a := 0) (b := 3) (by omega) hk (by decide)) (by decide) (by decide))))) ?_
  refine lv_if_eq (tgt := 58) hx hb dX6_set_14 (by decide) (fun c_14 => absurd c_14 (by decide)) (fun c_14 => ?_)
  refine lv_iload_n hx hb dX6_set_17 rfl (lv_at hl 2 rfl) ?_
  refine lv_i2l hx hb dX6_set_18 rfl ?_
  refine lv_iload_n hx hb dX6_set_19 rfl (lv_at hl 1 rfl) ?_
  refine lv_if_ne (tgt := 29) hx hb dX6_set_20 (by decide) (fun c_20 => ?_) (fun c_20 => ?_)
  · skip
    have n_20 : ¬ k = 0 := nf_neT rfl rfl (by omega) (by omega) c_20
    refine lv_iload_n hx hb dX6_set_29 rfl (lv_at hl 1 rfl) ?_
    refine lv_iconst (v := 3) hx hb dX6_set_30 (by decide) ?_
    refine lv_icmp_ne (tgt := 38) hx hb dX6_set_31 (by decide) (fun c_31 => ?_) (fun c_31 => ?_)
    · skip
      have n_31 : ¬ k = 3 := nf_neT rfl rfl (by omega) (by omega) c_31
      refine lv_lconst (v := 0) hx hb dX6_set_38 (by decide) ?_
      refine lv_iload_n hx hb dX6_set_39 rfl (lv_at hl 1 rfl) ?_
      refine lv_if_ne (tgt := 49) hx hb dX6_set_40 (by decide) (fun c_40 => ?_) (fun c_40 => absurd c_40 c_20)
      refine lv_ldc2 (v := 9) hx hb hown (hts _ (List.mem_of_getElem? (i := 5) rfl)) dX6_set_49 ?_
      refine g_cS (As := [.long w.toInt64, .long 0, .long 9]) (n := 3) (rest := []) (wc := []) (w1 := []) (bytes := cX6_in) (maxL := 6) (ret := (some .boolean)) hc hw hl.1 (m_X6_in (l := l) (D := D) (E := E) (T := T) w.toInt64 0 9) gX6_set_X6_in rfl (by decide +kernel) (by rw [hR]; exact ⟨Nat.le_of_ble_eq_true rfl, Nat.le_of_ble_eq_true rfl⟩) [] (by decide) rfl [] rfl rfl rfl rfl (Nat.le_of_ble_eq_true rfl) dX6_set_52 ⟨Nat.zero_le _, Nat.zero_le _⟩ (fun H locs hw => ?_)
      have hw : g_W D A s [(o, .inr (6, [.int 0, u1, u2, u3, u4, u5, u6, u7, u8, u9, u10, .ref pa, .ref va, u13, u14, .ref bk, .ref bs, .int (nI d), u18, u19, u20, u21, u22, u23, u24, u25, u26, u27, u28, u29, u30, u31, u32, u33, u34, u35])), (pa, .inl (E 0, 29, .inl (pgF S))), (va, .inl (E 1, 5, .inr (.inr (.inl (fl5 S))))), (bk, .inl (E 0, 406, .inl bb)), (bs, .inl (E 1, 70, .inr (.inr (.inl bf))))] H locs := hw
      refine W.eq (congrArg (fun z => F0 m 55 ls (.int z :: [])) (show (b2i (inL w.toInt64 0 9) : Int32) = 1 from (congrArg b2i (in_i (a := 0) (b := 9) (by rcases (show k = 1 ∨ k = 2 by omega) with rfl | rfl <;> exact ho) (by decide) (by decide))))) ?_
      refine lv_if_ne (tgt := 61) hx hb dX6_set_55 (by decide) (fun c_55 => ?_) (fun c_55 => absurd c_55 (by decide))
      refine lv_aload_n hx hb dX6_set_61 rfl (lv_at hl 0 rfl) ?_
      refine g_cV (As := []) (n := 0) (rest := []) (wc := [(o, .inr (6, [.int 0, u1, u2, u3, u4, u5, u6, u7, u8, u9, u10, .ref pa, .ref va, u13, u14, .ref bk, .ref bs, .int (nI d), u18, u19, u20, u21, u22, u23, u24, u25, u26, u27, u28, u29, u30, u31, u32, u33, u34, u35])), (pa, .inl (E 0, 29, .inl (pgF S))), (va, .inl (E 1, 5, .inr (.inr (.inl (fl5 S))))), (bk, .inl (E 0, 406, .inl bb)), (bs, .inl (E 1, 70, .inr (.inr (.inl bf))))]) (w1 := [(o, .inr (6, [.int 0, u1, u2, u3, u4, u5, u6, u7, u8, u9, u10, .ref pa, .ref va, u13, u14, .ref bk, .ref bs, .int (nI (min d 13 + 1)), u18, u19, u20, u21, u22, u23, u24, u25, u26, u27, u28, u29, u30, u31, u32, u33, u34, u35])), (pa, .inl (E 0, 29, .inl (pgF S))), (va, .inl (E 1, 5, .inr (.inr (.inl (fl5 S))))), (bk, .inl (E 0, 406, .inl (noI d bb S))), (bs, .inl (E 1, 70, .inr (.inr (.inl (noF d bf S)))))]) (bytes := cX6_note) (maxL := 2) (ret := none) hc hw hl.1 (m_X6_note (l := l) (D := D) (E := E) (T := T) o pa va bk bs d (.int 0) u1 u2 u3 u4 u5 u6 u7 u8 u9 u10 u13 u14 u18 u19 u20 u21 u22 u23 u24 u25 u26 u27 u28 u29 u30 u31 u32 u33 u34 u35 S bb bf (by first | assumption | omega | decide)) gX6_set_X6_note rfl (by decide +kernel) (by rw [hR]; exact ⟨Nat.le_of_ble_eq_true rfl, Nat.le_of_ble_eq_true rfl⟩) [0, 1, 2, 3, 4] 0 6 rfl rfl (by decide) rfl [o, pa, va, bk, bs] rfl rfl rfl rfl (Nat.le_of_ble_eq_true rfl) dX6_set_62 ⟨Nat.zero_le _, Nat.zero_le _⟩ (fun H locs hw => ?_)
      have hw : g_W D A s [(o, .inr (6, [.int 0, u1, u2, u3, u4, u5, u6, u7, u8, u9, u10, .ref pa, .ref va, u13, u14, .ref bk, .ref bs, .int (nI (min d 13 + 1)), u18, u19, u20, u21, u22, u23, u24, u25, u26, u27, u28, u29, u30, u31, u32, u33, u34, u35])), (pa, .inl (E 0, 29, .inl (pgF S))), (va, .inl (E 1, 5, .inr (.inr (.inl (fl5 S))))), (bk, .inl (E 0, 406, .inl (noI d bb S))), (bs, .inl (E 1, 70, .inr (.inr (.inl (noF d bf S)))))] H locs := hw
      refine lv_aload_n hx hb dX6_set_65 rfl (lv_at hl 0 rfl) ?_
      refine g_get (TT := TX6) hc hw inX6_set_X6 0 11 6 rfl rfl (by decide) rfl rfl dX6_set_66 ?_
      refine lv_bipush (v := 7) hx hb dX6_set_69 (by decide) ?_
      refine lv_iload_n hx hb dX6_set_71 rfl (lv_at hl 1 rfl) ?_
      refine lv_iadd hx hb dX6_set_72 ?_
      refine g_ild hc hw 1 (7 + k) rfl (n_add rfl rfl) (by omega) (by decide) dX6_set_73 ?_
      refine W.eq (congrArg (fun z => F0 m 74 ls (.int z :: [])) (show ((pgF S) (7 + k) : Int32) = sT S k from (pg_Tr S hk))) ?_
      refine lv_istore_n (lv' := [(3, .int (sT S k)), (0, .ref o), (1, .int (nI k)), (2, .int w)]) hx hb dX6_set_74 rfl hl (by decide) rfl (fun ls hl => ?_)
      refine lv_aload_n hx hb dX6_set_75 rfl (lv_at hl 1 rfl) ?_
      refine g_get (TT := TX6) hc hw inX6_set_X6 0 11 6 rfl rfl (by decide) rfl rfl dX6_set_76 ?_
      refine lv_bipush (v := 7) hx hb dX6_set_79 (by decide) ?_
      refine lv_iload_n hx hb dX6_set_81 rfl (lv_at hl 2 rfl) ?_
      refine lv_iadd hx hb dX6_set_82 ?_
      refine lv_iload_n hx hb dX6_set_83 rfl (lv_at hl 3 rfl) ?_
      refine g_ist hc hw 1 (7 + k) rfl (n_add rfl rfl) (by omega) (by decide) dX6_set_84 (fun H locs hw => ?_)
      have hw : g_W D A s [(o, .inr (6, [.int 0, u1, u2, u3, u4, u5, u6, u7, u8, u9, u10, .ref pa, .ref va, u13, u14, .ref bk, .ref bs, .int (nI (min d 13 + 1)), u18, u19, u20, u21, u22, u23, u24, u25, u26, u27, u28, u29, u30, u31, u32, u33, u34, u35])), (pa, .inl (E 0, 29, .inl (upd (pgF S) (7 + k) w))), (va, .inl (E 1, 5, .inr (.inr (.inl (fl5 S))))), (bk, .inl (E 0, 406, .inl (noI d bb S))), (bs, .inl (E 1, 70, .inr (.inr (.inl (noF d bf S)))))] H locs := hw
      refine lv_iload_n hx hb dX6_set_85 rfl (lv_at hl 0 rfl) ?_
      exact g_iret hQ hc hw hr rfl (by rw [pg_Tk S _ hk]; rfl) dX6_set_86
    · skip
      have n_31 : k = 3 := nf_neF rfl rfl (by omega) (by omega) c_31
      refine lv_lconst (v := 1) hx hb dX6_set_34 (by decide) ?_
      refine lv_goto (tgt := 39) hx hb dX6_set_35 (by decide) ?_
      refine lv_iload_n hx hb dX6_set_39 rfl (lv_at hl 1 rfl) ?_
      refine lv_if_ne (tgt := 49) hx hb dX6_set_40 (by decide) (fun c_40 => ?_) (fun c_40 => absurd c_40 c_20)
      refine lv_ldc2 (v := 9) hx hb hown (hts _ (List.mem_of_getElem? (i := 5) rfl)) dX6_set_49 ?_
      refine g_cS (As := [.long w.toInt64, .long 1, .long 9]) (n := 3) (rest := []) (wc := []) (w1 := []) (bytes := cX6_in) (maxL := 6) (ret := (some .boolean)) hc hw hl.1 (m_X6_in (l := l) (D := D) (E := E) (T := T) w.toInt64 1 9) gX6_set_X6_in rfl (by decide +kernel) (by rw [hR]; exact ⟨Nat.le_of_ble_eq_true rfl, Nat.le_of_ble_eq_true rfl⟩) [] (by decide) rfl [] rfl rfl rfl rfl (Nat.le_of_ble_eq_true rfl) dX6_set_52 ⟨Nat.zero_le _, Nat.zero_le _⟩ (fun H locs hw => ?_)
      have hw : g_W D A s [(o, .inr (6, [.int 0, u1, u2, u3, u4, u5, u6, u7, u8, u9, u10, .ref pa, .ref va, u13, u14, .ref bk, .ref bs, .int (nI d), u18, u19, u20, u21, u22, u23, u24, u25, u26, u27, u28, u29, u30, u31, u32, u33, u34, u35])), (pa, .inl (E 0, 29, .inl (pgF S))), (va, .inl (E 1, 5, .inr (.inr (.inl (fl5 S))))), (bk, .inl (E 0, 406, .inl bb)), (bs, .inl (E 1, 70, .inr (.inr (.inl bf))))] H locs := hw
      refine W.eq (congrArg (fun z => F0 m 55 ls (.int z :: [])) (show (b2i (inL w.toInt64 1 9) : Int32) = 1 from (congrArg b2i (in_i (a := 1) (b := 9) (by rw [n_31] at ho; exact ho) (by decide) (by decide))))) ?_
      refine lv_if_ne (tgt := 61) hx hb dX6_set_55 (by decide) (fun c_55 => ?_) (fun c_55 => absurd c_55 (by decide))
      refine lv_aload_n hx hb dX6_set_61 rfl (lv_at hl 0 rfl) ?_
      refine g_cV (As := []) (n := 0) (rest := []) (wc := [(o, .inr (6, [.int 0, u1, u2, u3, u4, u5, u6, u7, u8, u9, u10, .ref pa, .ref va, u13, u14, .ref bk, .ref bs, .int (nI d), u18, u19, u20, u21, u22, u23, u24, u25, u26, u27, u28, u29, u30, u31, u32, u33, u34, u35])), (pa, .inl (E 0, 29, .inl (pgF S))), (va, .inl (E 1, 5, .inr (.inr (.inl (fl5 S))))), (bk, .inl (E 0, 406, .inl bb)), (bs, .inl (E 1, 70, .inr (.inr (.inl bf))))]) (w1 := [(o, .inr (6, [.int 0, u1, u2, u3, u4, u5, u6, u7, u8, u9, u10, .ref pa, .ref va, u13, u14, .ref bk, .ref bs, .int (nI (min d 13 + 1)), u18, u19, u20, u21, u22, u23, u24, u25, u26, u27, u28, u29, u30, u31, u32, u33, u34, u35])), (pa, .inl (E 0, 29, .inl (pgF S))), (va, .inl (E 1, 5, .inr (.inr (.inl (fl5 S))))), (bk, .inl (E 0, 406, .inl (noI d bb S))), (bs, .inl (E 1, 70, .inr (.inr (.inl (noF d bf S)))))]) (bytes := cX6_note) (maxL := 2) (ret := none) hc hw hl.1 (m_X6_note (l := l) (D := D) (E := E) (T := T) o pa va bk bs d (.int 0) u1 u2 u3 u4 u5 u6 u7 u8 u9 u10 u13 u14 u18 u19 u20 u21 u22 u23 u24 u25 u26 u27 u28 u29 u30 u31 u32 u33 u34 u35 S bb bf (by first | assumption | omega | decide)) gX6_set_X6_note rfl (by decide +kernel) (by rw [hR]; exact ⟨Nat.le_of_ble_eq_true rfl, Nat.le_of_ble_eq_true rfl⟩) [0, 1, 2, 3, 4] 0 6 rfl rfl (by decide) rfl [o, pa, va, bk, bs] rfl rfl rfl rfl (Nat.le_of_ble_eq_true rfl) dX6_set_62 ⟨Nat.zero_le _, Nat.zero_le _⟩ (fun H locs hw => ?_)
      have hw : g_W D A s [(o, .inr (6, [.int 0, u1, u2, u3, u4, u5, u6, u7, u8, u9, u10, .ref pa, .ref va, u13, u14, .ref bk, .ref bs, .int (nI (min d 13 + 1)), u18, u19, u20, u21, u22, u23, u24, u25, u26, u27, u28, u29, u30, u31, u32, u33, u34, u35])), (pa, .inl (E 0, 29, .inl (pgF S))), (va, .inl (E 1, 5, .inr (.inr (.inl (fl5 S))))), (bk, .inl (E 0, 406, .inl (noI d bb S))), (bs, .inl (E 1, 70, .inr (.inr (.inl (noF d bf S)))))] H locs := hw
      refine lv_aload_n hx hb dX6_set_65 rfl (lv_at hl 0 rfl) ?_
      refine g_get (TT := TX6) hc hw inX6_set_X6 0 11 6 rfl rfl (by decide) rfl rfl dX6_set_66 ?_
      refine lv_bipush (v := 7) hx hb dX6_set_69 (by decide) ?_
      refine lv_iload_n hx hb dX6_set_71 rfl (lv_at hl 1 rfl) ?_
      refine lv_iadd hx hb dX6_set_72 ?_
      refine g_ild hc hw 1 (7 + k) rfl (n_add rfl rfl) (by omega) (by decide) dX6_set_73 ?_
      refine W.eq (congrArg (fun z => F0 m 74 ls (.int z :: [])) (show ((pgF S) (7 + k) : Int32) = sT S k from (pg_Tr S hk))) ?_
      refine lv_istore_n (lv' := [(3, .int (sT S k)), (0, .ref o), (1, .int (nI k)), (2, .int w)]) hx hb dX6_set_74 rfl hl (by decide) rfl (fun ls hl => ?_)
      refine lv_aload_n hx hb dX6_set_75 rfl (lv_at hl 1 rfl) ?_
      refine g_get (TT := TX6) hc hw inX6_set_X6 0 11 6 rfl rfl (by decide) rfl rfl dX6_set_76 ?_
      refine lv_bipush (v := 7) hx hb dX6_set_79 (by decide) ?_
      refine lv_iload_n hx hb dX6_set_81 rfl (lv_at hl 2 rfl) ?_
      refine lv_iadd hx hb dX6_set_82 ?_
      refine lv_iload_n hx hb dX6_set_83 rfl (lv_at hl 3 rfl) ?_
      refine g_ist hc hw 1 (7 + k) rfl (n_add rfl rfl) (by omega) (by decide) dX6_set_84 (fun H locs hw => ?_)
      have hw : g_W D A s [(o, .inr (6, [.int 0, u1, u2, u3, u4, u5, u6, u7, u8, u9, u10, .ref pa, .ref va, u13, u14, .ref bk, .ref bs, .int (nI (min d 13 + 1)), u18, u19, u20, u21, u22, u23, u24, u25, u26, u27, u28, u29, u30, u31, u32, u33, u34, u35])), (pa, .inl (E 0, 29, .inl (upd (pgF S) (7 + k) w))), (va, .inl (E 1, 5, .inr (.inr (.inl (fl5 S))))), (bk, .inl (E 0, 406, .inl (noI d bb S))), (bs, .inl (E 1, 70, .inr (.inr (.inl (noF d bf S)))))] H locs := hw
      refine lv_iload_n hx hb dX6_set_85 rfl (lv_at hl 0 rfl) ?_
      exact g_iret hQ hc hw hr rfl (by rw [pg_Tk S _ hk]; rfl) dX6_set_86
  · skip
    have n_20 : k = 0 := nf_neF rfl rfl (by omega) (by omega) c_20
    refine lv_ldc2 (v := 10) hx hb hown (hts _ (List.mem_of_getElem? (i := 3) rfl)) dX6_set_23 ?_
    refine lv_goto (tgt := 39) hx hb dX6_set_26 (by decide) ?_
    refine lv_iload_n hx hb dX6_set_39 rfl (lv_at hl 1 rfl) ?_
    refine lv_if_ne (tgt := 49) hx hb dX6_set_40 (by decide) (fun c_40 => absurd (by rw [n_20]; rfl) c_40) (fun c_40 => ?_)
    refine lv_ldc2 (v := 99) hx hb hown (hts _ (List.mem_of_getElem? (i := 4) rfl)) dX6_set_43 ?_
    refine lv_goto (tgt := 52) hx hb dX6_set_46 (by decide) ?_
    refine g_cS (As := [.long w.toInt64, .long 10, .long 99]) (n := 3) (rest := []) (wc := []) (w1 := []) (bytes := cX6_in) (maxL := 6) (ret := (some .boolean)) hc hw hl.1 (m_X6_in (l := l) (D := D) (E := E) (T := T) w.toInt64 10 99) gX6_set_X6_in rfl (by decide +kernel) (by rw [hR]; exact ⟨Nat.le_of_ble_eq_true rfl, Nat.le_of_ble_eq_true rfl⟩) [] (by decide) rfl [] rfl rfl rfl rfl (Nat.le_of_ble_eq_true rfl) dX6_set_52 ⟨Nat.zero_le _, Nat.zero_le _⟩ (fun H locs hw => ?_)
    have hw : g_W D A s [(o, .inr (6, [.int 0, u1, u2, u3, u4, u5, u6, u7, u8, u9, u10, .ref pa, .ref va, u13, u14, .ref bk, .ref bs, .int (nI d), u18, u19, u20, u21, u22, u23, u24, u25, u26, u27, u28, u29, u30, u31, u32, u33, u34, u35])), (pa, .inl (E 0, 29, .inl (pgF S))), (va, .inl (E 1, 5, .inr (.inr (.inl (fl5 S))))), (bk, .inl (E 0, 406, .inl bb)), (bs, .inl (E 1, 70, .inr (.inr (.inl bf))))] H locs := hw
    refine W.eq (congrArg (fun z => F0 m 55 ls (.int z :: [])) (show (b2i (inL w.toInt64 10 99) : Int32) = 1 from (congrArg b2i (in_i (a := 10) (b := 99) (by rw [n_20] at ho; exact ho) (by decide) (by decide))))) ?_
    refine lv_if_ne (tgt := 61) hx hb dX6_set_55 (by decide) (fun c_55 => ?_) (fun c_55 => absurd c_55 (by decide))
    refine lv_aload_n hx hb dX6_set_61 rfl (lv_at hl 0 rfl) ?_
    refine g_cV (As := []) (n := 0) (rest := []) (wc := [(o, .inr (6, [.int 0, u1, u2, u3, u4, u5, u6, u7, u8, u9, u10, .ref pa, .ref va, u13, u14, .ref bk, .ref bs, .int (nI d), u18, u19, u20, u21, u22, u23, u24, u25, u26, u27, u28, u29, u30, u31, u32, u33, u34, u35])), (pa, .inl (E 0, 29, .inl (pgF S))), (va, .inl (E 1, 5, .inr (.inr (.inl (fl5 S))))), (bk, .inl (E 0, 406, .inl bb)), (bs, .inl (E 1, 70, .inr (.inr (.inl bf))))]) (w1 := [(o, .inr (6, [.int 0, u1, u2, u3, u4, u5, u6, u7, u8, u9, u10, .ref pa, .ref va, u13, u14, .ref bk, .ref bs, .int (nI (min d 13 + 1)), u18, u19, u20, u21, u22, u23, u24, u25, u26, u27, u28, u29, u30, u31, u32, u33, u34, u35])), (pa, .inl (E 0, 29, .inl (pgF S))), (va, .inl (E 1, 5, .inr (.inr (.inl (fl5 S))))), (bk, .inl (E 0, 406, .inl (noI d bb S))), (bs, .inl (E 1, 70, .inr (.inr (.inl (noF d bf S)))))]) (bytes := cX6_note) (maxL := 2) (ret := none) hc hw hl.1 (m_X6_note (l := l) (D := D) (E := E) (T := T) o pa va bk bs d (.int 0) u1 u2 u3 u4 u5 u6 u7 u8 u9 u10 u13 u14 u18 u19 u20 u21 u22 u23 u24 u25 u26 u27 u28 u29 u30 u31 u32 u33 u34 u35 S bb bf (by first | assumption | omega | decide)) gX6_set_X6_note rfl (by decide +kernel) (by rw [hR]; exact ⟨Nat.le_of_ble_eq_true rfl, Nat.le_of_ble_eq_true rfl⟩) [0, 1, 2, 3, 4] 0 6 rfl rfl (by decide) rfl [o, pa, va, bk, bs] rfl rfl rfl rfl (Nat.le_of_ble_eq_true rfl) dX6_set_62 ⟨Nat.zero_le _, Nat.zero_le _⟩ (fun H locs hw => ?_)
    have hw : g_W D A s [(o, .inr (6, [.int 0, u1, u2, u3, u4, u5, u6, u7, u8, u9, u10, .ref pa, .ref va, u13, u14, .ref bk, .ref bs, .int (nI (min d 13 + 1)), u18, u19, u20, u21, u22, u23, u24, u25, u26, u27, u28, u29, u30, u31, u32, u33, u34, u35])), (pa, .inl (E 0, 29, .inl (pgF S))), (va, .inl (E 1, 5, .inr (.inr (.inl (fl5 S))))), (bk, .inl (E 0, 406, .inl (noI d bb S))), (bs, .inl (E 1, 70, .inr (.inr (.inl (noF d bf S)))))] H locs := hw
    refine lv_aload_n hx hb dX6_set_65 rfl (lv_at hl 0 rfl) ?_
    refine g_get (TT := TX6) hc hw inX6_set_X6 0 11 6 rfl rfl (by decide) rfl rfl dX6_set_66 ?_
    refine lv_bipush (v := 7) hx hb dX6_set_69 (by decide) ?_
    refine lv_iload_n hx hb dX6_set_71 rfl (lv_at hl 1 rfl) ?_
    refine lv_iadd hx hb dX6_set_72 ?_
    refine g_ild hc hw 1 (7 + k) rfl (n_add rfl rfl) (by omega) (by decide) dX6_set_73 ?_
    refine W.eq (congrArg (fun z => F0 m 74 ls (.int z :: [])) (show ((pgF S) (7 + k) : Int32) = sT S k from (pg_Tr S hk))) ?_
    refine lv_istore_n (lv' := [(3, .int (sT S k)), (0, .ref o), (1, .int (nI k)), (2, .int w)]) hx hb dX6_set_74 rfl hl (by decide) rfl (fun ls hl => ?_)
    refine lv_aload_n hx hb dX6_set_75 rfl (lv_at hl 1 rfl) ?_
    refine g_get (TT := TX6) hc hw inX6_set_X6 0 11 6 rfl rfl (by decide) rfl rfl dX6_set_76 ?_
    refine lv_bipush (v := 7) hx hb dX6_set_79 (by decide) ?_
    refine lv_iload_n hx hb dX6_set_81 rfl (lv_at hl 2 rfl) ?_
    refine lv_iadd hx hb dX6_set_82 ?_
    refine lv_iload_n hx hb dX6_set_83 rfl (lv_at hl 3 rfl) ?_
    refine g_ist hc hw 1 (7 + k) rfl (n_add rfl rfl) (by omega) (by decide) dX6_set_84 (fun H locs hw => ?_)
    have hw : g_W D A s [(o, .inr (6, [.int 0, u1, u2, u3, u4, u5, u6, u7, u8, u9, u10, .ref pa, .ref va, u13, u14, .ref bk, .ref bs, .int (nI (min d 13 + 1)), u18, u19, u20, u21, u22, u23, u24, u25, u26, u27, u28, u29, u30, u31, u32, u33, u34, u35])), (pa, .inl (E 0, 29, .inl (upd (pgF S) (7 + k) w))), (va, .inl (E 1, 5, .inr (.inr (.inl (fl5 S))))), (bk, .inl (E 0, 406, .inl (noI d bb S))), (bs, .inl (E 1, 70, .inr (.inr (.inl (noF d bf S)))))] H locs := hw
    refine lv_iload_n hx hb dX6_set_85 rfl (lv_at hl 0 rfl) ?_
    exact g_iret hQ hc hw hr rfl (by rw [pg_Tk S _ hk]; rfl) dX6_set_86

theorem dX6_want_0 : decode cX6_want 0 = .ok (.aload_n 0, 1) := by decide +kernel
theorem dX6_want_1 : decode cX6_want 1 = .ok (.iconst 0, 1) := by decide +kernel
theorem dX6_want_2 : decode cX6_want 2 = .ok (.putfield 88, 3) := by decide +kernel
theorem dX6_want_5 : decode cX6_want 5 = .ok (.iload_n 1, 1) := by decide +kernel
theorem dX6_want_6 : decode cX6_want 6 = .ok (.i2l, 1) := by decide +kernel
theorem dX6_want_7 : decode cX6_want 7 = .ok (.lconst 0, 1) := by decide +kernel
theorem dX6_want_8 : decode cX6_want 8 = .ok (.aload_n 0, 1) := by decide +kernel
theorem dX6_want_9 : decode cX6_want 9 = .ok (.getfield 130, 3) := by decide +kernel
theorem dX6_want_12 : decode cX6_want 12 = .ok (.iconst 1, 1) := by decide +kernel
theorem dX6_want_13 : decode cX6_want 13 = .ok (.isub, 1) := by decide +kernel
theorem dX6_want_14 : decode cX6_want 14 = .ok (.i2l, 1) := by decide +kernel
theorem dX6_want_15 : decode cX6_want 15 = .ok (.invokestatic 94, 3) := by decide +kernel
theorem dX6_want_18 : decode cX6_want 18 = .ok (.ifCond .ne 5, 3) := by decide +kernel
theorem dX6_want_21 : decode cX6_want 21 = .ok (.iconst (-1), 1) := by decide +kernel
theorem dX6_want_22 : decode cX6_want 22 = .ok (.ireturn, 1) := by decide +kernel
set_option maxRecDepth 20000 in
theorem ggX6_want_X6_in : GoodIn wsX6_want wsX6_in := goodIn_r _ [9] rfl (by decide +kernel)
set_option maxRecDepth 20000 in
theorem gX6_want_X6_in : GoodIn wsX6_want (va_wsS RX6 94 yX6_in wsX6_in) := goodIn_app (goodIn_of _ (by decide +kernel)) ggX6_want_X6_in
theorem inX6_want_X6 : ∀ w ∈ u_ws RX6 TX6 36, w ∈ wsX6_want := fun w h => List.mem_cons_of_mem _ (List.mem_append_right _ h)
set_option maxRecDepth 100000 in
set_option maxHeartbeats 4000000 in
theorem m_X6_want_row {l : Launch} {D : va_G} {E : Nat → ClassId} {T : Nat → Nat} (o : Nat) (nw : Nat) (u0 : Value) (u1 : Value) (u2 : Value) (u3 : Value) (u5 : Value) (u6 : Value) (u7 : Value) (u8 : Value) (u9 : Value) (u10 : Value) (u11 : Value) (u12 : Value) (u13 : Value) (u14 : Value) (u15 : Value) (u16 : Value) (u17 : Value) (u18 : Value) (u19 : Value) (u20 : Value) (u21 : Value) (u22 : Value) (u23 : Value) (u24 : Value) (u25 : Value) (u26 : Value) (u27 : Value) (u28 : Value) (u29 : Value) (u30 : Value) (u31 : Value) (u32 : Value) (u33 : Value) (u34 : Value) (u35 : Value) (v : Int32) (wx : Int32) (wy : Int32) (wz : Int32) (hnw : nw ≤ 6) (hr9 : 0 ≤ v → ¬ v < nI nw) : g_M l D E T yX6_want wsX6_want 1 25 [.ref o, .int v, .int wx, .int wy, .int wz] [(o, .inr (6, [u0, u1, u2, u3, .int (nI nw), u5, u6, u7, u8, u9, u10, u11, u12, u13, u14, u15, u16, u17, u18, u19, u20, u21, u22, u23, u24, u25, u26, u27, u28, u29, u30, u31, u32, u33, u34, u35]))] [(o, .inr (6, [.int 0, u1, u2, u3, .int (nI nw), u5, u6, u7, u8, u9, u10, u11, u12, u13, u14, u15, u16, u17, u18, u19, u20, u21, u22, u23, u24, u25, u26, u27, u28, u29, u30, u31, u32, u33, u34, u35]))] (some (.int (-1))) := by
  refine g_M.of (cc := cX6_want) (nL := 6) (ret := (some .int)) (own := RX6) (lv := [(0, .ref o), (1, .int v), (2, .int wx), (3, .int wy), (4, .int wz)]) (by decide) rfl rfl (Nat.le_of_ble_eq_true rfl) rfl ?_
  intro p e R s m args below meth c A Q H locs ls hR hQ hc hr hw hl
  have hx := hc.1
  have hb := hc.2.1
  have hts := hc.2.2.2.1
  have hown := hc.2.2.2.2.1
  refine lv_aload_n hx hb dX6_want_0 rfl (lv_at hl 0 rfl) ?_
  refine lv_iconst (v := 0) hx hb dX6_want_1 (by decide) ?_
  refine g_put (TT := TX6) hc hw inX6_want_X6 tyX6 tyX6_ok nmX6 0 0 1 rfl rfl (by decide) rfl rfl rfl rfl (Nat.le_of_ble_eq_true rfl) dX6_want_2 (fun H locs hw => ?_)
  have hw : g_W D A s [(o, .inr (6, [.int 0, u1, u2, u3, .int (nI nw), u5, u6, u7, u8, u9, u10, u11, u12, u13, u14, u15, u16, u17, u18, u19, u20, u21, u22, u23, u24, u25, u26, u27, u28, u29, u30, u31, u32, u33, u34, u35]))] H locs := hw
  refine lv_iload_n hx hb dX6_want_5 rfl (lv_at hl 1 rfl) ?_
  refine lv_i2l hx hb dX6_want_6 rfl ?_
  refine lv_lconst (v := 0) hx hb dX6_want_7 (by decide) ?_
  refine lv_aload_n hx hb dX6_want_8 rfl (lv_at hl 0 rfl) ?_
  refine g_get (TT := TX6) hc hw inX6_want_X6 0 4 2 rfl rfl (by decide) rfl rfl dX6_want_9 ?_
  refine lv_iconst (v := 1) hx hb dX6_want_12 (by decide) ?_
  refine lv_isub hx hb dX6_want_13 ?_
  refine lv_i2l hx hb dX6_want_14 rfl ?_
  refine g_cS (As := [.long v.toInt64, .long 0, .long (((nI nw) - 1).toInt64)]) (n := 3) (rest := []) (wc := []) (w1 := []) (bytes := cX6_in) (maxL := 6) (ret := (some .boolean)) hc hw hl.1 (m_X6_in (l := l) (D := D) (E := E) (T := T) v.toInt64 0 (((nI nw) - 1).toInt64)) gX6_want_X6_in rfl (by decide +kernel) (by rw [hR]; exact ⟨Nat.le_of_ble_eq_true rfl, Nat.le_of_ble_eq_true rfl⟩) [] (by decide) rfl [] rfl rfl rfl rfl (Nat.le_of_ble_eq_true rfl) dX6_want_15 ⟨Nat.zero_le _, Nat.zero_le _⟩ (fun H locs hw => ?_)
  have hw : g_W D A s [(o, .inr (6, [.int 0, u1, u2, u3, .int (nI nw), u5, u6, u7, u8, u9, u10, u11, u12, u13, u14, u15, u16, u17, u18, u19, u20, u21, u22, u23, u24, u25, u26, u27, u28, u29, u30, u31, u32, u33, u34, u35]))] H locs := hw
  refine W.eq (congrArg (fun z => F0 m 18 ls (.int z :: [])) (show (b2i (inL v.toInt64 0 (((nI nw) - 1).toInt64)) : Int32) = 0 from (congrArg b2i (in_rN hnw hr9)))) ?_
  refine lv_if_ne (tgt := 23) hx hb dX6_want_18 (by decide) (fun c_18 => absurd c_18 (by decide)) (fun c_18 => ?_)
  refine lv_iconst (v := (-1)) hx hb dX6_want_21 (by decide) ?_
  exact g_iret hQ hc hw hr rfl rfl dX6_want_22

theorem dX6_want_23 : decode cX6_want 23 = .ok (.iload_n 2, 1) := by decide +kernel
theorem dX6_want_24 : decode cX6_want 24 = .ok (.i2l, 1) := by decide +kernel
theorem dX6_want_25 : decode cX6_want 25 = .ok (.ldc2_w 243, 3) := by decide +kernel
theorem dX6_want_28 : decode cX6_want 28 = .ok (.ldc2_w 103, 3) := by decide +kernel
theorem dX6_want_31 : decode cX6_want 31 = .ok (.invokestatic 94, 3) := by decide +kernel
theorem dX6_want_34 : decode cX6_want 34 = .ok (.ifCond .eq 32, 3) := by decide +kernel
theorem dX6_want_37 : decode cX6_want 37 = .ok (.iload_n 3, 1) := by decide +kernel
theorem dX6_want_38 : decode cX6_want 38 = .ok (.i2l, 1) := by decide +kernel
theorem dX6_want_39 : decode cX6_want 39 = .ok (.ldc2_w 243, 3) := by decide +kernel
theorem dX6_want_42 : decode cX6_want 42 = .ok (.ldc2_w 103, 3) := by decide +kernel
theorem dX6_want_45 : decode cX6_want 45 = .ok (.invokestatic 94, 3) := by decide +kernel
theorem dX6_want_48 : decode cX6_want 48 = .ok (.ifCond .eq 18, 3) := by decide +kernel
theorem dX6_want_51 : decode cX6_want 51 = .ok (.iload 4, 2) := by decide +kernel
theorem dX6_want_53 : decode cX6_want 53 = .ok (.i2l, 1) := by decide +kernel
theorem dX6_want_54 : decode cX6_want 54 = .ok (.ldc2_w 243, 3) := by decide +kernel
theorem dX6_want_57 : decode cX6_want 57 = .ok (.ldc2_w 103, 3) := by decide +kernel
theorem dX6_want_60 : decode cX6_want 60 = .ok (.invokestatic 94, 3) := by decide +kernel
theorem dX6_want_63 : decode cX6_want 63 = .ok (.ifCond .ne 6, 3) := by decide +kernel
theorem dX6_want_66 : decode cX6_want 66 = .ok (.bipush (-2), 2) := by decide +kernel
theorem dX6_want_68 : decode cX6_want 68 = .ok (.ireturn, 1) := by decide +kernel
set_option maxRecDepth 100000 in
set_option maxHeartbeats 4000000 in
theorem m_X6_want_out {l : Launch} {D : va_G} {E : Nat → ClassId} {T : Nat → Nat} (o : Nat) (nw : Nat) (r9 : Nat) (u0 : Value) (u1 : Value) (u2 : Value) (u3 : Value) (u5 : Value) (u6 : Value) (u7 : Value) (u8 : Value) (u9 : Value) (u10 : Value) (u11 : Value) (u12 : Value) (u13 : Value) (u14 : Value) (u15 : Value) (u16 : Value) (u17 : Value) (u18 : Value) (u19 : Value) (u20 : Value) (u21 : Value) (u22 : Value) (u23 : Value) (u24 : Value) (u25 : Value) (u26 : Value) (u27 : Value) (u28 : Value) (u29 : Value) (u30 : Value) (u31 : Value) (u32 : Value) (u33 : Value) (u34 : Value) (u35 : Value) (wx : Int32) (wy : Int32) (wz : Int32) (hw1 : r9 < nw) (hnw : nw ≤ 6) (ho : outB wx (-9) 9 = false → outB wy (-9) 9 = false → outB wz (-9) 9 = true) : g_M l D E T yX6_want wsX6_want 1 25 [.ref o, .int (nI r9), .int wx, .int wy, .int wz] [(o, .inr (6, [u0, u1, u2, u3, .int (nI nw), u5, u6, u7, u8, u9, u10, u11, u12, u13, u14, u15, u16, u17, u18, u19, u20, u21, u22, u23, u24, u25, u26, u27, u28, u29, u30, u31, u32, u33, u34, u35]))] [(o, .inr (6, [.int 0, u1, u2, u3, .int (nI nw), u5, u6, u7, u8, u9, u10, u11, u12, u13, u14, u15, u16, u17, u18, u19, u20, u21, u22, u23, u24, u25, u26, u27, u28, u29, u30, u31, u32, u33, u34, u35]))] (some (.int (-2))) := by
  refine g_M.of (cc := cX6_want) (nL := 6) (ret := (some .int)) (own := RX6) (lv := [(0, .ref o), (1, .int (nI r9)), (2, .int wx), (3, .int wy), (4, .int wz)]) (by decide) rfl rfl (Nat.le_of_ble_eq_true rfl) rfl ?_
  intro p e R s m args below meth c A Q H locs ls hR hQ hc hr hw hl
  have hx := hc.1
  have hb := hc.2.1
  have hts := hc.2.2.2.1
  have hown := hc.2.2.2.2.1
  refine lv_aload_n hx hb dX6_want_0 rfl (lv_at hl 0 rfl) ?_
  refine lv_iconst (v := 0) hx hb dX6_want_1 (by decide) ?_
  refine g_put (TT := TX6) hc hw inX6_want_X6 tyX6 tyX6_ok nmX6 0 0 1 rfl rfl (by decide) rfl rfl rfl rfl (Nat.le_of_ble_eq_true rfl) dX6_want_2 (fun H locs hw => ?_)
  have hw : g_W D A s [(o, .inr (6, [.int 0, u1, u2, u3, .int (nI nw), u5, u6, u7, u8, u9, u10, u11, u12, u13, u14, u15, u16, u17, u18, u19, u20, u21, u22, u23, u24, u25, u26, u27, u28, u29, u30, u31, u32, u33, u34, u35]))] H locs := hw
  refine lv_iload_n hx hb dX6_want_5 rfl (lv_at hl 1 rfl) ?_
  refine lv_i2l hx hb dX6_want_6 rfl ?_
  refine lv_lconst (v := 0) hx hb dX6_want_7 (by decide) ?_
  refine lv_aload_n hx hb dX6_want_8 rfl (lv_at hl 0 rfl) ?_
  refine g_get (TT := TX6) hc hw inX6_want_X6 0 4 2 rfl rfl (by decide) rfl rfl dX6_want_9 ?_
  refine lv_iconst (v := 1) hx hb dX6_want_12 (by decide) ?_
  refine lv_isub hx hb dX6_want_13 ?_
  refine lv_i2l hx hb dX6_want_14 rfl ?_
  refine g_cS (As := [.long ((nI r9).toInt64), .long 0, .long (((nI nw) - 1).toInt64)]) (n := 3) (rest := []) (wc := []) (w1 := []) (bytes := cX6_in) (maxL := 6) (ret := (some .boolean)) hc hw hl.1 (m_X6_in (l := l) (D := D) (E := E) (T := T) ((nI r9).toInt64) 0 (((nI nw) - 1).toInt64)) gX6_want_X6_in rfl (by decide +kernel) (by rw [hR]; exact ⟨Nat.le_of_ble_eq_true rfl, Nat.le_of_ble_eq_true rfl⟩) [] (by decide) rfl [] rfl rfl rfl rfl (Nat.le_of_ble_eq_true rfl) dX6_want_15 ⟨Nat.zero_le _, Nat.zero_le _⟩ (fun H locs hw => ?_)
  have hw : g_W D A s [(o, .inr (6, [.int 0, u1, u2, u3, .int (nI nw), u5, u6, u7, u8, u9, u10, u11, u12, u13, u14, u15, u16, u17, u18, u19, u20, u21, u22, u23, u24, u25, u26, u27, u28, u29, u30, u31, u32, u33, u34, u35]))] H locs := hw
  refine W.eq (congrArg (fun z => F0 m 18 ls (.int z :: [])) (show (b2i (inL ((nI r9).toInt64) 0 (((nI nw) - 1).toInt64)) : Int32) = 1 from (congrArg b2i (in_rT hnw hw1)))) ?_
  refine lv_if_ne (tgt := 23) hx hb dX6_want_18 (by decide) (fun c_18 => ?_) (fun c_18 => absurd c_18 (by decide))
  refine lv_iload_n hx hb dX6_want_23 rfl (lv_at hl 2 rfl) ?_
  refine lv_i2l hx hb dX6_want_24 rfl ?_
  refine lv_ldc2 (v := -9) hx hb hown (hts _ (List.mem_of_getElem? (i := 3) rfl)) dX6_want_25 ?_
  refine lv_ldc2 (v := 9) hx hb hown (hts _ (List.mem_of_getElem? (i := 4) rfl)) dX6_want_28 ?_
  refine g_cS (As := [.long wx.toInt64, .long (-9), .long 9]) (n := 3) (rest := []) (wc := []) (w1 := []) (bytes := cX6_in) (maxL := 6) (ret := (some .boolean)) hc hw hl.1 (m_X6_in (l := l) (D := D) (E := E) (T := T) wx.toInt64 (-9) 9) gX6_want_X6_in rfl (by decide +kernel) (by rw [hR]; exact ⟨Nat.le_of_ble_eq_true rfl, Nat.le_of_ble_eq_true rfl⟩) [] (by decide) rfl [] rfl rfl rfl rfl (Nat.le_of_ble_eq_true rfl) dX6_want_31 ⟨Nat.zero_le _, Nat.zero_le _⟩ (fun H locs hw => ?_)
  have hw : g_W D A s [(o, .inr (6, [.int 0, u1, u2, u3, .int (nI nw), u5, u6, u7, u8, u9, u10, u11, u12, u13, u14, u15, u16, u17, u18, u19, u20, u21, u22, u23, u24, u25, u26, u27, u28, u29, u30, u31, u32, u33, u34, u35]))] H locs := hw
  refine W.eq (congrArg (fun z => F0 m 34 ls (.int z :: [])) (show (b2i (inL wx.toInt64 (-9) 9) : Int32) = b2i (!outB wx (-9) 9) from (congrArg b2i (in_e wx (a := -9) (b := 9) (by decide) (by decide))))) ?_
  refine lv_if_eq (tgt := 66) hx hb dX6_want_34 (by decide) (fun c_34 => ?_) (fun c_34 => ?_)
  · skip
    have k_34 := b2i_eq c_34
    refine lv_bipush (v := (-2)) hx hb dX6_want_66 (by decide) ?_
    exact g_iret hQ hc hw hr rfl rfl dX6_want_68
  · skip
    have k_34 := b2i_ne c_34
    refine lv_iload_n hx hb dX6_want_37 rfl (lv_at hl 3 rfl) ?_
    refine lv_i2l hx hb dX6_want_38 rfl ?_
    refine lv_ldc2 (v := -9) hx hb hown (hts _ (List.mem_of_getElem? (i := 3) rfl)) dX6_want_39 ?_
    refine lv_ldc2 (v := 9) hx hb hown (hts _ (List.mem_of_getElem? (i := 4) rfl)) dX6_want_42 ?_
    refine g_cS (As := [.long wy.toInt64, .long (-9), .long 9]) (n := 3) (rest := []) (wc := []) (w1 := []) (bytes := cX6_in) (maxL := 6) (ret := (some .boolean)) hc hw hl.1 (m_X6_in (l := l) (D := D) (E := E) (T := T) wy.toInt64 (-9) 9) gX6_want_X6_in rfl (by decide +kernel) (by rw [hR]; exact ⟨Nat.le_of_ble_eq_true rfl, Nat.le_of_ble_eq_true rfl⟩) [] (by decide) rfl [] rfl rfl rfl rfl (Nat.le_of_ble_eq_true rfl) dX6_want_45 ⟨Nat.zero_le _, Nat.zero_le _⟩ (fun H locs hw => ?_)
    have hw : g_W D A s [(o, .inr (6, [.int 0, u1, u2, u3, .int (nI nw), u5, u6, u7, u8, u9, u10, u11, u12, u13, u14, u15, u16, u17, u18, u19, u20, u21, u22, u23, u24, u25, u26, u27, u28, u29, u30, u31, u32, u33, u34, u35]))] H locs := hw
    refine W.eq (congrArg (fun z => F0 m 48 ls (.int z :: [])) (show (b2i (inL wy.toInt64 (-9) 9) : Int32) = b2i (!outB wy (-9) 9) from (congrArg b2i (in_e wy (a := -9) (b := 9) (by decide) (by decide))))) ?_
    refine lv_if_eq (tgt := 66) hx hb dX6_want_48 (by decide) (fun c_48 => ?_) (fun c_48 => ?_)
    · skip
      have k_48 := b2i_eq c_48
      refine lv_bipush (v := (-2)) hx hb dX6_want_66 (by decide) ?_
      exact g_iret hQ hc hw hr rfl rfl dX6_want_68
    · skip
      have k_48 := b2i_ne c_48
      refine lv_iload hx hb dX6_want_51 (lv_at hl 4 rfl) ?_
      refine lv_i2l hx hb dX6_want_53 rfl ?_
      refine lv_ldc2 (v := -9) hx hb hown (hts _ (List.mem_of_getElem? (i := 3) rfl)) dX6_want_54 ?_
      refine lv_ldc2 (v := 9) hx hb hown (hts _ (List.mem_of_getElem? (i := 4) rfl)) dX6_want_57 ?_
      refine g_cS (As := [.long wz.toInt64, .long (-9), .long 9]) (n := 3) (rest := []) (wc := []) (w1 := []) (bytes := cX6_in) (maxL := 6) (ret := (some .boolean)) hc hw hl.1 (m_X6_in (l := l) (D := D) (E := E) (T := T) wz.toInt64 (-9) 9) gX6_want_X6_in rfl (by decide +kernel) (by rw [hR]; exact ⟨Nat.le_of_ble_eq_true rfl, Nat.le_of_ble_eq_true rfl⟩) [] (by decide) rfl [] rfl rfl rfl rfl (Nat.le_of_ble_eq_true rfl) dX6_want_60 ⟨Nat.zero_le _, Nat.zero_le _⟩ (fun H locs hw => ?_)
      have hw : g_W D A s [(o, .inr (6, [.int 0, u1, u2, u3, .int (nI nw), u5, u6, u7, u8, u9, u10, u11, u12, u13, u14, u15, u16, u17, u18, u19, u20, u21, u22, u23, u24, u25, u26, u27, u28, u29, u30, u31, u32, u33, u34, u35]))] H locs := hw
      refine W.eq (congrArg (fun z => F0 m 63 ls (.int z :: [])) (show (b2i (inL wz.toInt64 (-9) 9) : Int32) = b2i (!outB wz (-9) 9) from (congrArg b2i (in_e wz (a := -9) (b := 9) (by decide) (by decide))))) ?_
      refine lv_if_ne (tgt := 69) hx hb dX6_want_63 (by decide) (fun c_63 => absurd (show b2i (!outB wz (-9) 9) = 0 by rw [ho (by simpa using k_34) (by simpa using k_48)]; rfl) c_63) (fun c_63 => ?_)
      refine lv_bipush (v := (-2)) hx hb dX6_want_66 (by decide) ?_
      exact g_iret hQ hc hw hr rfl rfl dX6_want_68

theorem dX6_want_69 : decode cX6_want 69 = .ok (.aload_n 0, 1) := by decide +kernel
theorem dX6_want_70 : decode cX6_want 70 = .ok (.invokevirtual 231, 3) := by decide +kernel
theorem dX6_want_73 : decode cX6_want 73 = .ok (.aload_n 0, 1) := by decide +kernel
theorem dX6_want_74 : decode cX6_want 74 = .ok (.getfield 25, 3) := by decide +kernel
theorem dX6_want_77 : decode cX6_want 77 = .ok (.bipush 11, 2) := by decide +kernel
theorem dX6_want_79 : decode cX6_want 79 = .ok (.iconst 3, 1) := by decide +kernel
theorem dX6_want_80 : decode cX6_want 80 = .ok (.iload_n 1, 1) := by decide +kernel
theorem dX6_want_81 : decode cX6_want 81 = .ok (.imul, 1) := by decide +kernel
theorem dX6_want_82 : decode cX6_want 82 = .ok (.iadd, 1) := by decide +kernel
theorem dX6_want_83 : decode cX6_want 83 = .ok (.iaload, 1) := by decide +kernel
theorem dX6_want_84 : decode cX6_want 84 = .ok (.istore 5, 2) := by decide +kernel
theorem dX6_want_86 : decode cX6_want 86 = .ok (.aload_n 0, 1) := by decide +kernel
theorem dX6_want_87 : decode cX6_want 87 = .ok (.getfield 25, 3) := by decide +kernel
theorem dX6_want_90 : decode cX6_want 90 = .ok (.bipush 11, 2) := by decide +kernel
theorem dX6_want_92 : decode cX6_want 92 = .ok (.iconst 3, 1) := by decide +kernel
theorem dX6_want_93 : decode cX6_want 93 = .ok (.iload_n 1, 1) := by decide +kernel
theorem dX6_want_94 : decode cX6_want 94 = .ok (.imul, 1) := by decide +kernel
theorem dX6_want_95 : decode cX6_want 95 = .ok (.iadd, 1) := by decide +kernel
theorem dX6_want_96 : decode cX6_want 96 = .ok (.iload_n 2, 1) := by decide +kernel
theorem dX6_want_97 : decode cX6_want 97 = .ok (.iastore, 1) := by decide +kernel
theorem dX6_want_98 : decode cX6_want 98 = .ok (.aload_n 0, 1) := by decide +kernel
theorem dX6_want_99 : decode cX6_want 99 = .ok (.getfield 25, 3) := by decide +kernel
theorem dX6_want_102 : decode cX6_want 102 = .ok (.bipush 11, 2) := by decide +kernel
theorem dX6_want_104 : decode cX6_want 104 = .ok (.iconst 3, 1) := by decide +kernel
theorem dX6_want_105 : decode cX6_want 105 = .ok (.iload_n 1, 1) := by decide +kernel
theorem dX6_want_106 : decode cX6_want 106 = .ok (.imul, 1) := by decide +kernel
theorem dX6_want_107 : decode cX6_want 107 = .ok (.iadd, 1) := by decide +kernel
theorem dX6_want_108 : decode cX6_want 108 = .ok (.iconst 1, 1) := by decide +kernel
theorem dX6_want_109 : decode cX6_want 109 = .ok (.iadd, 1) := by decide +kernel
theorem dX6_want_110 : decode cX6_want 110 = .ok (.iload_n 3, 1) := by decide +kernel
theorem dX6_want_111 : decode cX6_want 111 = .ok (.iastore, 1) := by decide +kernel
theorem dX6_want_112 : decode cX6_want 112 = .ok (.aload_n 0, 1) := by decide +kernel
theorem dX6_want_113 : decode cX6_want 113 = .ok (.getfield 25, 3) := by decide +kernel
theorem dX6_want_116 : decode cX6_want 116 = .ok (.bipush 11, 2) := by decide +kernel
theorem dX6_want_118 : decode cX6_want 118 = .ok (.iconst 3, 1) := by decide +kernel
theorem dX6_want_119 : decode cX6_want 119 = .ok (.iload_n 1, 1) := by decide +kernel
theorem dX6_want_120 : decode cX6_want 120 = .ok (.imul, 1) := by decide +kernel
theorem dX6_want_121 : decode cX6_want 121 = .ok (.iadd, 1) := by decide +kernel
theorem dX6_want_122 : decode cX6_want 122 = .ok (.iconst 2, 1) := by decide +kernel
theorem dX6_want_123 : decode cX6_want 123 = .ok (.iadd, 1) := by decide +kernel
theorem dX6_want_124 : decode cX6_want 124 = .ok (.iload 4, 2) := by decide +kernel
theorem dX6_want_126 : decode cX6_want 126 = .ok (.iastore, 1) := by decide +kernel
theorem dX6_want_127 : decode cX6_want 127 = .ok (.iload 5, 2) := by decide +kernel
theorem dX6_want_129 : decode cX6_want 129 = .ok (.ireturn, 1) := by decide +kernel
set_option maxRecDepth 20000 in
theorem ggX6_want_X6_note : GoodIn wsX6_want wsX6_note := goodIn_r _ [13, 14, 15, 16, 5, 17, 18, 19, 20, 21, 22, 23, 24, 25, 26, 27, 28, 29, 30, 31, 32, 33, 34, 35, 36, 37, 38, 39, 40, 41, 42, 43, 44, 45, 46, 47, 48, 49, 50, 51, 52, 53] rfl (by decide +kernel)
set_option maxRecDepth 20000 in
theorem gX6_want_X6_note : GoodIn wsX6_want (wsV RX6 231 RX6 yX6_note wsX6_note) := goodIn_app (goodIn_of _ (by decide +kernel)) ggX6_want_X6_note
set_option maxRecDepth 100000 in
set_option maxHeartbeats 4000000 in
theorem m_X6_want {l : Launch} {D : va_G} {E : Nat → ClassId} {T : Nat → Nat} (nw : Nat) (r9 : Nat) (o : Nat) (pa : Nat) (va : Nat) (bk : Nat) (bs : Nat) (d : Nat) (u0 : Value) (u1 : Value) (u2 : Value) (u3 : Value) (u5 : Value) (u6 : Value) (u7 : Value) (u8 : Value) (u9 : Value) (u10 : Value) (u13 : Value) (u14 : Value) (u18 : Value) (u19 : Value) (u20 : Value) (u21 : Value) (u22 : Value) (u23 : Value) (u24 : Value) (u25 : Value) (u26 : Value) (u27 : Value) (u28 : Value) (u29 : Value) (u30 : Value) (u31 : Value) (u32 : Value) (u33 : Value) (u34 : Value) (u35 : Value) (S : TS) (bb : Nat → Int32) (bf : Nat → UInt32) (B : Nat) (wx : Int32) (wy : Int32) (wz : Int32) (hok : OkS B S) (hd9 : d ≤ 14) (hw1 : r9 < nw) (hnw : nw ≤ 6) (ho1 : outB wx (-9) 9 = false) (ho2 : outB wy (-9) 9 = false) (ho3 : outB wz (-9) 9 = false) : g_M l D E T yX6_want wsX6_want 1 25 [.ref o, .int (nI r9), .int wx, .int wy, .int wz] [(o, .inr (6, [u0, u1, u2, u3, .int (nI nw), u5, u6, u7, u8, u9, u10, .ref pa, .ref va, u13, u14, .ref bk, .ref bs, .int (nI d), u18, u19, u20, u21, u22, u23, u24, u25, u26, u27, u28, u29, u30, u31, u32, u33, u34, u35])), (pa, .inl (E 0, 29, .inl (pgF S))), (va, .inl (E 1, 5, .inr (.inr (.inl (fl5 S))))), (bk, .inl (E 0, 406, .inl bb)), (bs, .inl (E 1, 70, .inr (.inr (.inl bf))))] [(o, .inr (6, [.int 0, u1, u2, u3, .int (nI nw), u5, u6, u7, u8, u9, u10, .ref pa, .ref va, u13, u14, .ref bk, .ref bs, .int (nI (min d 13 + 1)), u18, u19, u20, u21, u22, u23, u24, u25, u26, u27, u28, u29, u30, u31, u32, u33, u34, u35])), (pa, .inl (E 0, 29, .inl (pgF (wnS S r9 wx wy wz)))), (va, .inl (E 1, 5, .inr (.inr (.inl (fl5 (wnS S r9 wx wy wz)))))), (bk, .inl (E 0, 406, .inl (noI d bb S))), (bs, .inl (E 1, 70, .inr (.inr (.inl (noF d bf S)))))] (some (.int (sW S (r9 * 3)))) := by
  refine g_M.of (cc := cX6_want) (nL := 6) (ret := (some .int)) (own := RX6) (lv := [(0, .ref o), (1, .int (nI r9)), (2, .int wx), (3, .int wy), (4, .int wz)]) (by decide) rfl rfl (Nat.le_of_ble_eq_true rfl) rfl ?_
  intro p e R s m args below meth c A Q H locs ls hR hQ hc hr hw hl
  have hx := hc.1
  have hb := hc.2.1
  have hts := hc.2.2.2.1
  have hown := hc.2.2.2.2.1
  refine lv_aload_n hx hb dX6_want_0 rfl (lv_at hl 0 rfl) ?_
  refine lv_iconst (v := 0) hx hb dX6_want_1 (by decide) ?_
  refine g_put (TT := TX6) hc hw inX6_want_X6 tyX6 tyX6_ok nmX6 0 0 1 rfl rfl (by decide) rfl rfl rfl rfl (Nat.le_of_ble_eq_true rfl) dX6_want_2 (fun H locs hw => ?_)
  have hw : g_W D A s [(o, .inr (6, [.int 0, u1, u2, u3, .int (nI nw), u5, u6, u7, u8, u9, u10, .ref pa, .ref va, u13, u14, .ref bk, .ref bs, .int (nI d), u18, u19, u20, u21, u22, u23, u24, u25, u26, u27, u28, u29, u30, u31, u32, u33, u34, u35])), (pa, .inl (E 0, 29, .inl (pgF S))), (va, .inl (E 1, 5, .inr (.inr (.inl (fl5 S))))), (bk, .inl (E 0, 406, .inl bb)), (bs, .inl (E 1, 70, .inr (.inr (.inl bf))))] H locs := hw
  refine lv_iload_n hx hb dX6_want_5 rfl (lv_at hl 1 rfl) ?_
  refine lv_i2l hx hb dX6_want_6 rfl ?_
  refine lv_lconst (v := 0) hx hb dX6_want_7 (by decide) ?_
  refine lv_aload_n hx hb dX6_want_8 rfl (lv_at hl 0 rfl) ?_
  refine g_get (TT := TX6) hc hw inX6_want_X6 0 4 2 rfl rfl (by decide) rfl rfl dX6_want_9 ?_
  refine lv_iconst (v := 1) hx hb dX6_want_12 (by decide) ?_
  refine lv_isub hx hb dX6_want_13 ?_
  refine lv_i2l hx hb dX6_want_14 rfl ?_
  refine g_cS (As := [.long ((nI r9).toInt64), .long 0, .long (((nI nw) - 1).toInt64)]) (n := 3) (rest := []) (wc := []) (w1 := []) (bytes := cX6_in) (maxL := 6) (ret := (some .boolean)) hc hw hl.1 (m_X6_in (l := l) (D := D) (E := E) (T := T) ((nI r9).toInt64) 0 (((nI nw) - 1).toInt64)) gX6_want_X6_in rfl (by decide +kernel) (by rw [hR]; exact ⟨Nat.le_of_ble_eq_true rfl, Nat.le_of_ble_eq_true rfl⟩) [] (by decide) rfl [] rfl rfl rfl rfl (Nat.le_of_ble_eq_true rfl) dX6_want_15 ⟨Nat.zero_le _, Nat.zero_le _⟩ (fun H locs hw => ?_)
  have hw : g_W D A s [(o, .inr (6, [.int 0, u1, u2, u3, .int (nI nw), u5, u6, u7, u8, u9, u10, .ref pa, .ref va, u13, u14, .ref bk, .ref bs, .int (nI d), u18, u19, u20, u21, u22, u23, u24, u25, u26, u27, u28, u29, u30, u31, u32, u33, u34, u35])), (pa, .inl (E 0, 29, .inl (pgF S))), (va, .inl (E 1, 5, .inr (.inr (.inl (fl5 S))))), (bk, .inl (E 0, 406, .inl bb)), (bs, .inl (E 1, 70, .inr (.inr (.inl bf))))] H locs := hw
  refine W.eq (congrArg (fun z => F0 m 18 ls (.int z :: [])) (show (b2i (inL ((nI r9).toInt64) 0 (((nI nw) - 1).toInt64)) : Int32) = 1 from (congrArg b2i (in_rT hnw hw1)))) ?_
  refine lv_if_ne (tgt := 23) hx hb dX6_want_18 (by decide) (fun c_18 => ?_) (fun c_18 => absurd c_18 (by decide))
  refine lv_iload_n hx hb dX6_want_23 rfl (lv_at hl 2 rfl) ?_
  refine lv_i2l hx hb dX6_want_24 rfl ?_
  refine lv_ldc2 (v := -9) hx hb hown (hts _ (List.mem_of_getElem? (i := 3) rfl)) dX6_want_25 ?_
  refine lv_ldc2 (v := 9) hx hb hown (hts _ (List.mem_of_getElem? (i := 4) rfl)) dX6_want_28 ?_
  refine g_cS (As := [.long wx.toInt64, .long (-9), .long 9]) (n := 3) (rest := []) (wc := []) (w1 := []) (bytes := cX6_in) (maxL := 6) (ret := (some .boolean)) hc hw hl.1 (m_X6_in (l := l) (D := D) (E := E) (T := T) wx.toInt64 (-9) 9) gX6_want_X6_in rfl (by decide +kernel) (by rw [hR]; exact ⟨Nat.le_of_ble_eq_true rfl, Nat.le_of_ble_eq_true rfl⟩) [] (by decide) rfl [] rfl rfl rfl rfl (Nat.le_of_ble_eq_true rfl) dX6_want_31 ⟨Nat.zero_le _, Nat.zero_le _⟩ (fun H locs hw => ?_)
  have hw : g_W D A s [(o, .inr (6, [.int 0, u1, u2, u3, .int (nI nw), u5, u6, u7, u8, u9, u10, .ref pa, .ref va, u13, u14, .ref bk, .ref bs, .int (nI d), u18, u19, u20, u21, u22, u23, u24, u25, u26, u27, u28, u29, u30, u31, u32, u33, u34, u35])), (pa, .inl (E 0, 29, .inl (pgF S))), (va, .inl (E 1, 5, .inr (.inr (.inl (fl5 S))))), (bk, .inl (E 0, 406, .inl bb)), (bs, .inl (E 1, 70, .inr (.inr (.inl bf))))] H locs := hw
  refine W.eq (congrArg (fun z => F0 m 34 ls (.int z :: [])) (show (b2i (inL wx.toInt64 (-9) 9) : Int32) = 1 from (congrArg b2i (in_i (a := -9) (b := 9) ho1 (by decide) (by decide))))) ?_
  refine lv_if_eq (tgt := 66) hx hb dX6_want_34 (by decide) (fun c_34 => absurd c_34 (by decide)) (fun c_34 => ?_)
  refine lv_iload_n hx hb dX6_want_37 rfl (lv_at hl 3 rfl) ?_
  refine lv_i2l hx hb dX6_want_38 rfl ?_
  refine lv_ldc2 (v := -9) hx hb hown (hts _ (List.mem_of_getElem? (i := 3) rfl)) dX6_want_39 ?_
  refine lv_ldc2 (v := 9) hx hb hown (hts _ (List.mem_of_getElem? (i := 4) rfl)) dX6_want_42 ?_
  refine g_cS (As := [.long wy.toInt64, .long (-9), .long 9]) (n := 3) (rest := []) (wc := []) (w1 := []) (bytes := cX6_in) (maxL := 6) (ret := (some .boolean)) hc hw hl.1 (m_X6_in (l := l) (D := D) (E := E) (T := T) wy.toInt64 (-9) 9) gX6_want_X6_in rfl (by decide +kernel) (by rw [hR]; exact ⟨Nat.le_of_ble_eq_true rfl, Nat.le_of_ble_eq_true rfl⟩) [] (by decide) rfl [] rfl rfl rfl rfl (Nat.le_of_ble_eq_true rfl) dX6_want_45 ⟨Nat.zero_le _, Nat.zero_le _⟩ (fun H locs hw => ?_)
  have hw : g_W D A s [(o, .inr (6, [.int 0, u1, u2, u3, .int (nI nw), u5, u6, u7, u8, u9, u10, .ref pa, .ref va, u13, u14, .ref bk, .ref bs, .int (nI d), u18, u19, u20, u21, u22, u23, u24, u25, u26, u27, u28, u29, u30, u31, u32, u33, u34, u35])), (pa, .inl (E 0, 29, .inl (pgF S))), (va, .inl (E 1, 5, .inr (.inr (.inl (fl5 S))))), (bk, .inl (E 0, 406, .inl bb)), (bs, .inl (E 1, 70, .inr (.inr (.inl bf))))] H locs := hw
  refine W.eq (congrArg (fun z => F0 m 48 ls (.int z :: [])) (show (b2i (inL wy.toInt64 (-9) 9) : Int32) = 1 from (congrArg b2i (in_i (a := -9) (b := 9) ho2 (by decide) (by decide))))) ?_
  refine lv_if_eq (tgt := 66) hx hb dX6_want_48 (by decide) (fun c_48 => absurd c_48 (by decide)) (fun c_48 => ?_)
  refine lv_iload hx hb dX6_want_51 (lv_at hl 4 rfl) ?_
  refine lv_i2l hx hb dX6_want_53 rfl ?_
  refine lv_ldc2 (v := -9) hx hb hown (hts _ (List.mem_of_getElem? (i := 3) rfl)) dX6_want_54 ?_
  refine lv_ldc2 (v := 9) hx hb hown (hts _ (List.mem_of_getElem? (i := 4) rfl)) dX6_want_57 ?_
  refine g_cS (As := [.long wz.toInt64, .long (-9), .long 9]) (n := 3) (rest := []) (wc := []) (w1 := []) (bytes := cX6_in) (maxL := 6) (ret := (some .boolean)) hc hw hl.1 (m_X6_in (l := l) (D := D) (E := E) (T := T) wz.toInt64 (-9) 9) gX6_want_X6_in rfl (by decide +kernel) (by rw [hR]; exact ⟨Nat.le_of_ble_eq_true rfl, Nat.le_of_ble_eq_true rfl⟩) [] (by decide) rfl [] rfl rfl rfl rfl (Nat.le_of_ble_eq_true rfl) dX6_want_60 ⟨Nat.zero_le _, Nat.zero_le _⟩ (fun H locs hw => ?_)
  have hw : g_W D A s [(o, .inr (6, [.int 0, u1, u2, u3, .int (nI nw), u5, u6, u7, u8, u9, u10, .ref pa, .ref va, u13, u14, .ref bk, .ref bs, .int (nI d), u18, u19, u20, u21, u22, u23, u24, u25, u26, u27, u28, u29, u30, u31, u32, u33, u34, u35])), (pa, .inl (E 0, 29, .inl (pgF S))), (va, .inl (E 1, 5, .inr (.inr (.inl (fl5 S))))), (bk, .inl (E 0, 406, .inl bb)), (bs, .inl (E 1, 70, .inr (.inr (.inl bf))))] H locs := hw
  refine W.eq (congrArg (fun z => F0 m 63 ls (.int z :: [])) (show (b2i (inL wz.toInt64 (-9) 9) : Int32) = 1 from (congrArg b2i (in_i (a := -9) (b := 9) ho3 (by decide) (by decide))))) ?_
  refine lv_if_ne (tgt := 69) hx hb dX6_want_63 (by decide) (fun c_63 => ?_) (fun c_63 => absurd c_63 (by decide))
  refine lv_aload_n hx hb dX6_want_69 rfl (lv_at hl 0 rfl) ?_
  refine g_cV (As := []) (n := 0) (rest := []) (wc := [(o, .inr (6, [.int 0, u1, u2, u3, .int (nI nw), u5, u6, u7, u8, u9, u10, .ref pa, .ref va, u13, u14, .ref bk, .ref bs, .int (nI d), u18, u19, u20, u21, u22, u23, u24, u25, u26, u27, u28, u29, u30, u31, u32, u33, u34, u35])), (pa, .inl (E 0, 29, .inl (pgF S))), (va, .inl (E 1, 5, .inr (.inr (.inl (fl5 S))))), (bk, .inl (E 0, 406, .inl bb)), (bs, .inl (E 1, 70, .inr (.inr (.inl bf))))]) (w1 := [(o, .inr (6, [.int 0, u1, u2, u3, .int (nI nw), u5, u6, u7, u8, u9, u10, .ref pa, .ref va, u13, u14, .ref bk, .ref bs, .int (nI (min d 13 + 1)), u18, u19, u20, u21, u22, u23, u24, u25, u26, u27, u28, u29, u30, u31, u32, u33, u34, u35])), (pa, .inl (E 0, 29, .inl (pgF S))), (va, .inl (E 1, 5, .inr (.inr (.inl (fl5 S))))), (bk, .inl (E 0, 406, .inl (noI d bb S))), (bs, .inl (E 1, 70, .inr (.inr (.inl (noF d bf S)))))]) (bytes := cX6_note) (maxL := 2) (ret := none) hc hw hl.1 (m_X6_note (l := l) (D := D) (E := E) (T := T) o pa va bk bs d (.int 0) u1 u2 u3 (.int (nI nw)) u5 u6 u7 u8 u9 u10 u13 u14 u18 u19 u20 u21 u22 u23 u24 u25 u26 u27 u28 u29 u30 u31 u32 u33 u34 u35 S bb bf (by first | assumption | omega | decide)) gX6_want_X6_note rfl (by decide +kernel) (by rw [hR]; exact ⟨Nat.le_of_ble_eq_true rfl, Nat.le_of_ble_eq_true rfl⟩) [0, 1, 2, 3, 4] 0 6 rfl rfl (by decide) rfl [o, pa, va, bk, bs] rfl rfl rfl rfl (Nat.le_of_ble_eq_true rfl) dX6_want_70 ⟨Nat.zero_le _, Nat.zero_le _⟩ (fun H locs hw => ?_)
  have hw : g_W D A s [(o, .inr (6, [.int 0, u1, u2, u3, .int (nI nw), u5, u6, u7, u8, u9, u10, .ref pa, .ref va, u13, u14, .ref bk, .ref bs, .int (nI (min d 13 + 1)), u18, u19, u20, u21, u22, u23, u24, u25, u26, u27, u28, u29, u30, u31, u32, u33, u34, u35])), (pa, .inl (E 0, 29, .inl (pgF S))), (va, .inl (E 1, 5, .inr (.inr (.inl (fl5 S))))), (bk, .inl (E 0, 406, .inl (noI d bb S))), (bs, .inl (E 1, 70, .inr (.inr (.inl (noF d bf S)))))] H locs := hw
  refine lv_aload_n hx hb dX6_want_73 rfl (lv_at hl 0 rfl) ?_
  refine g_get (TT := TX6) hc hw inX6_want_X6 0 11 5 rfl rfl (by decide) rfl rfl dX6_want_74 ?_
  refine lv_bipush (v := 11) hx hb dX6_want_77 (by decide) ?_
  refine lv_iconst (v := 3) hx hb dX6_want_79 (by decide) ?_
  refine lv_iload_n hx hb dX6_want_80 rfl (lv_at hl 1 rfl) ?_
  refine lv_imul hx hb dX6_want_81 ?_
  refine lv_iadd hx hb dX6_want_82 ?_
  refine g_ild hc hw 1 (11 + (3 * r9)) rfl (n_add rfl (n_mul rfl rfl)) (by omega) (by decide) dX6_want_83 ?_
  refine W.eq (congrArg (fun z => F0 m 84 ls (.int z :: [])) (show ((pgF S) (11 + (3 * r9)) : Int32) = sW S (r9 * 3) from (pg_W0r S r9))) ?_
  refine lv_istore (lv' := [(5, .int (sW S (r9 * 3))), (0, .ref o), (1, .int (nI r9)), (2, .int wx), (3, .int wy), (4, .int wz)]) hx hb dX6_want_84 hl (by decide) rfl (fun ls hl => ?_)
  refine lv_aload_n hx hb dX6_want_86 rfl (lv_at hl 1 rfl) ?_
  refine g_get (TT := TX6) hc hw inX6_want_X6 0 11 5 rfl rfl (by decide) rfl rfl dX6_want_87 ?_
  refine lv_bipush (v := 11) hx hb dX6_want_90 (by decide) ?_
  refine lv_iconst (v := 3) hx hb dX6_want_92 (by decide) ?_
  refine lv_iload_n hx hb dX6_want_93 rfl (lv_at hl 2 rfl) ?_
  refine lv_imul hx hb dX6_want_94 ?_
  refine lv_iadd hx hb dX6_want_95 ?_
  refine lv_iload_n hx hb dX6_want_96 rfl (lv_at hl 3 rfl) ?_
  refine g_ist hc hw 1 (11 + (3 * r9)) rfl (n_add rfl (n_mul rfl rfl)) (by omega) (by decide) dX6_want_97 (fun H locs hw => ?_)
  have hw : g_W D A s [(o, .inr (6, [.int 0, u1, u2, u3, .int (nI nw), u5, u6, u7, u8, u9, u10, .ref pa, .ref va, u13, u14, .ref bk, .ref bs, .int (nI (min d 13 + 1)), u18, u19, u20, u21, u22, u23, u24, u25, u26, u27, u28, u29, u30, u31, u32, u33, u34, u35])), (pa, .inl (E 0, 29, .inl (upd (pgF S) (11 + (3 * r9)) wx))), (va, .inl (E 1, 5, .inr (.inr (.inl (fl5 S))))), (bk, .inl (E 0, 406, .inl (noI d bb S))), (bs, .inl (E 1, 70, .inr (.inr (.inl (noF d bf S)))))] H locs := hw
  rw [pg_W0] at hw
  have hw : g_W D A s [(o, .inr (6, [.int 0, u1, u2, u3, .int (nI nw), u5, u6, u7, u8, u9, u10, .ref pa, .ref va, u13, u14, .ref bk, .ref bs, .int (nI (min d 13 + 1)), u18, u19, u20, u21, u22, u23, u24, u25, u26, u27, u28, u29, u30, u31, u32, u33, u34, u35])), (pa, .inl (E 0, 29, .inl (pgF (wW S (upd (sW S) (r9 * 3) wx))))), (va, .inl (E 1, 5, .inr (.inr (.inl (fl5 S))))), (bk, .inl (E 0, 406, .inl (noI d bb S))), (bs, .inl (E 1, 70, .inr (.inr (.inl (noF d bf S)))))] H locs := hw
  refine lv_aload_n hx hb dX6_want_98 rfl (lv_at hl 1 rfl) ?_
  refine g_get (TT := TX6) hc hw inX6_want_X6 0 11 5 rfl rfl (by decide) rfl rfl dX6_want_99 ?_
  refine lv_bipush (v := 11) hx hb dX6_want_102 (by decide) ?_
  refine lv_iconst (v := 3) hx hb dX6_want_104 (by decide) ?_
  refine lv_iload_n hx hb dX6_want_105 rfl (lv_at hl 2 rfl) ?_
  refine lv_imul hx hb dX6_want_106 ?_
  refine lv_iadd hx hb dX6_want_107 ?_
  refine lv_iconst (v := 1) hx hb dX6_want_108 (by decide) ?_
  refine lv_iadd hx hb dX6_want_109 ?_
  refine lv_iload_n hx hb dX6_want_110 rfl (lv_at hl 4 rfl) ?_
  refine g_ist hc hw 1 ((11 + (3 * r9)) + 1) rfl (n_add (n_add rfl (n_mul rfl rfl)) rfl) (by omega) (by decide) dX6_want_111 (fun H locs hw => ?_)
  have hw : g_W D A s [(o, .inr (6, [.int 0, u1, u2, u3, .int (nI nw), u5, u6, u7, u8, u9, u10, .ref pa, .ref va, u13, u14, .ref bk, .ref bs, .int (nI (min d 13 + 1)), u18, u19, u20, u21, u22, u23, u24, u25, u26, u27, u28, u29, u30, u31, u32, u33, u34, u35])), (pa, .inl (E 0, 29, .inl (upd (pgF (wW S (upd (sW S) (r9 * 3) wx))) ((11 + (3 * r9)) + 1) wy))), (va, .inl (E 1, 5, .inr (.inr (.inl (fl5 S))))), (bk, .inl (E 0, 406, .inl (noI d bb S))), (bs, .inl (E 1, 70, .inr (.inr (.inl (noF d bf S)))))] H locs := hw
  rw [pg_Wk] at hw
  have hw : g_W D A s [(o, .inr (6, [.int 0, u1, u2, u3, .int (nI nw), u5, u6, u7, u8, u9, u10, .ref pa, .ref va, u13, u14, .ref bk, .ref bs, .int (nI (min d 13 + 1)), u18, u19, u20, u21, u22, u23, u24, u25, u26, u27, u28, u29, u30, u31, u32, u33, u34, u35])), (pa, .inl (E 0, 29, .inl (pgF (wW (wW S (upd (sW S) (r9 * 3) wx)) (upd (sW (wW S (upd (sW S) (r9 * 3) wx))) (r9 * 3 + 1) wy))))), (va, .inl (E 1, 5, .inr (.inr (.inl (fl5 S))))), (bk, .inl (E 0, 406, .inl (noI d bb S))), (bs, .inl (E 1, 70, .inr (.inr (.inl (noF d bf S)))))] H locs := hw
  refine lv_aload_n hx hb dX6_want_112 rfl (lv_at hl 1 rfl) ?_
  refine g_get (TT := TX6) hc hw inX6_want_X6 0 11 5 rfl rfl (by decide) rfl rfl dX6_want_113 ?_
  refine lv_bipush (v := 11) hx hb dX6_want_116 (by decide) ?_
  refine lv_iconst (v := 3) hx hb dX6_want_118 (by decide) ?_
  refine lv_iload_n hx hb dX6_want_119 rfl (lv_at hl 2 rfl) ?_
  refine lv_imul hx hb dX6_want_120 ?_
  refine lv_iadd hx hb dX6_want_121 ?_
  refine lv_iconst (v := 2) hx hb dX6_want_122 (by decide) ?_
  refine lv_iadd hx hb dX6_want_123 ?_
  refine lv_iload hx hb dX6_want_124 (lv_at hl 5 rfl) ?_
  refine g_ist hc hw 1 ((11 + (3 * r9)) + 2) rfl (n_add (n_add rfl (n_mul rfl rfl)) rfl) (by omega) (by decide) dX6_want_126 (fun H locs hw => ?_)
  have hw : g_W D A s [(o, .inr (6, [.int 0, u1, u2, u3, .int (nI nw), u5, u6, u7, u8, u9, u10, .ref pa, .ref va, u13, u14, .ref bk, .ref bs, .int (nI (min d 13 + 1)), u18, u19, u20, u21, u22, u23, u24, u25, u26, u27, u28, u29, u30, u31, u32, u33, u34, u35])), (pa, .inl (E 0, 29, .inl (upd (pgF (wW (wW S (upd (sW S) (r9 * 3) wx)) (upd (sW (wW S (upd (sW S) (r9 * 3) wx))) (r9 * 3 + 1) wy))) ((11 + (3 * r9)) + 2) wz))), (va, .inl (E 1, 5, .inr (.inr (.inl (fl5 S))))), (bk, .inl (E 0, 406, .inl (noI d bb S))), (bs, .inl (E 1, 70, .inr (.inr (.inl (noF d bf S)))))] H locs := hw
  rw [pg_Wk] at hw
  have hw : g_W D A s [(o, .inr (6, [.int 0, u1, u2, u3, .int (nI nw), u5, u6, u7, u8, u9, u10, .ref pa, .ref va, u13, u14, .ref bk, .ref bs, .int (nI (min d 13 + 1)), u18, u19, u20, u21, u22, u23, u24, u25, u26, u27, u28, u29, u30, u31, u32, u33, u34, u35])), (pa, .inl (E 0, 29, .inl (pgF (wW (wW (wW S (upd (sW S) (r9 * 3) wx)) (upd (sW (wW S (upd (sW S) (r9 * 3) wx))) (r9 * 3 + 1) wy)) (upd (sW (wW (wW S (upd (sW S) (r9 * 3) wx)) (upd (sW (wW S (upd (sW S) (r9 * 3) wx))) (r9 * 3 + 1) wy))) (r9 * 3 + 2) wz))))), (va, .inl (E 1, 5, .inr (.inr (.inl (fl5 S))))), (bk, .inl (E 0, 406, .inl (noI d bb S))), (bs, .inl (E 1, 70, .inr (.inr (.inl (noF d bf S)))))] H locs := hw
  refine lv_iload hx hb dX6_want_127 (lv_at hl 0 rfl) ?_
  exact g_iret hQ hc hw hr rfl rfl dX6_want_129

theorem dX6_undo_0 : decode cX6_undo 0 = .ok (.aload_n 0, 1) := by decide +kernel
theorem dX6_undo_1 : decode cX6_undo 1 = .ok (.iconst 0, 1) := by decide +kernel
theorem dX6_undo_2 : decode cX6_undo 2 = .ok (.putfield 88, 3) := by decide +kernel
theorem dX6_undo_5 : decode cX6_undo 5 = .ok (.aload_n 0, 1) := by decide +kernel
theorem dX6_undo_6 : decode cX6_undo 6 = .ok (.getfield 136, 3) := by decide +kernel
theorem dX6_undo_9 : decode cX6_undo 9 = .ok (.ifCond .ne 6, 3) := by decide +kernel
theorem dX6_undo_12 : decode cX6_undo 12 = .ok (.bipush (-3), 2) := by decide +kernel
theorem dX6_undo_14 : decode cX6_undo 14 = .ok (.ireturn, 1) := by decide +kernel
theorem inX6_undo_X6 : ∀ w ∈ u_ws RX6 TX6 36, w ∈ wsX6_undo := fun w h => List.mem_cons_of_mem _ (List.mem_append_right _ h)
set_option maxRecDepth 100000 in
set_option maxHeartbeats 4000000 in
theorem m_X6_undo_none {l : Launch} {D : va_G} {E : Nat → ClassId} {T : Nat → Nat} (o : Nat) (u0 : Value) (u1 : Value) (u2 : Value) (u3 : Value) (u4 : Value) (u5 : Value) (u6 : Value) (u7 : Value) (u8 : Value) (u9 : Value) (u10 : Value) (u11 : Value) (u12 : Value) (u13 : Value) (u14 : Value) (u15 : Value) (u16 : Value) (u18 : Value) (u19 : Value) (u20 : Value) (u21 : Value) (u22 : Value) (u23 : Value) (u24 : Value) (u25 : Value) (u26 : Value) (u27 : Value) (u28 : Value) (u29 : Value) (u30 : Value) (u31 : Value) (u32 : Value) (u33 : Value) (u34 : Value) (u35 : Value)  : g_M l D E T yX6_undo wsX6_undo 0 0 [.ref o] [(o, .inr (6, [u0, u1, u2, u3, u4, u5, u6, u7, u8, u9, u10, u11, u12, u13, u14, u15, u16, .int 0, u18, u19, u20, u21, u22, u23, u24, u25, u26, u27, u28, u29, u30, u31, u32, u33, u34, u35]))] [(o, .inr (6, [.int 0, u1, u2, u3, u4, u5, u6, u7, u8, u9, u10, u11, u12, u13, u14, u15, u16, .int 0, u18, u19, u20, u21, u22, u23, u24, u25, u26, u27, u28, u29, u30, u31, u32, u33, u34, u35]))] (some (.int (-3))) := by
  refine g_M.of (cc := cX6_undo) (nL := 2) (ret := (some .int)) (own := RX6) (lv := [(0, .ref o)]) (by decide) rfl rfl (Nat.le_of_ble_eq_true rfl) rfl ?_
  intro p e R s m args below meth c A Q H locs ls hR hQ hc hr hw hl
  have hx := hc.1
  have hb := hc.2.1
  have hts := hc.2.2.2.1
  have hown := hc.2.2.2.2.1
  refine lv_aload_n hx hb dX6_undo_0 rfl (lv_at hl 0 rfl) ?_
  refine lv_iconst (v := 0) hx hb dX6_undo_1 (by decide) ?_
  refine g_put (TT := TX6) hc hw inX6_undo_X6 tyX6 tyX6_ok nmX6 0 0 1 rfl rfl (by decide) rfl rfl rfl rfl (Nat.le_of_ble_eq_true rfl) dX6_undo_2 (fun H locs hw => ?_)
  have hw : g_W D A s [(o, .inr (6, [.int 0, u1, u2, u3, u4, u5, u6, u7, u8, u9, u10, u11, u12, u13, u14, u15, u16, .int 0, u18, u19, u20, u21, u22, u23, u24, u25, u26, u27, u28, u29, u30, u31, u32, u33, u34, u35]))] H locs := hw
  refine lv_aload_n hx hb dX6_undo_5 rfl (lv_at hl 0 rfl) ?_
  refine g_get (TT := TX6) hc hw inX6_undo_X6 0 17 2 rfl rfl (by decide) rfl rfl dX6_undo_6 ?_
  refine lv_if_ne (tgt := 15) hx hb dX6_undo_9 (by decide) (fun c_9 => absurd c_9 (by decide)) (fun c_9 => ?_)
  refine lv_bipush (v := (-3)) hx hb dX6_undo_12 (by decide) ?_
  exact g_iret hQ hc hw hr rfl rfl dX6_undo_14

theorem dX6_undo_15 : decode cX6_undo 15 = .ok (.aload_n 0, 1) := by decide +kernel
theorem dX6_undo_16 : decode cX6_undo 16 = .ok (.dup, 1) := by decide +kernel
theorem dX6_undo_17 : decode cX6_undo 17 = .ok (.getfield 136, 3) := by decide +kernel
theorem dX6_undo_20 : decode cX6_undo 20 = .ok (.iconst 1, 1) := by decide +kernel
theorem dX6_undo_21 : decode cX6_undo 21 = .ok (.isub, 1) := by decide +kernel
theorem dX6_undo_22 : decode cX6_undo 22 = .ok (.putfield 136, 3) := by decide +kernel
theorem dX6_undo_25 : decode cX6_undo 25 = .ok (.iconst 0, 1) := by decide +kernel
theorem dX6_undo_26 : decode cX6_undo 26 = .ok (.istore_n 1, 1) := by decide +kernel
theorem dX6_undo_27 : decode cX6_undo 27 = .ok (.iload_n 1, 1) := by decide +kernel
theorem dX6_undo_28 : decode cX6_undo 28 = .ok (.bipush 29, 2) := by decide +kernel
theorem dX6_undo_30 : decode cX6_undo 30 = .ok (.if_icmp .ge 29, 3) := by decide +kernel
theorem dX6_undo_33 : decode cX6_undo 33 = .ok (.aload_n 0, 1) := by decide +kernel
theorem dX6_undo_34 : decode cX6_undo 34 = .ok (.getfield 25, 3) := by decide +kernel
theorem dX6_undo_37 : decode cX6_undo 37 = .ok (.iload_n 1, 1) := by decide +kernel
theorem dX6_undo_38 : decode cX6_undo 38 = .ok (.aload_n 0, 1) := by decide +kernel
theorem dX6_undo_39 : decode cX6_undo 39 = .ok (.getfield 38, 3) := by decide +kernel
theorem dX6_undo_42 : decode cX6_undo 42 = .ok (.bipush 29, 2) := by decide +kernel
theorem dX6_undo_44 : decode cX6_undo 44 = .ok (.aload_n 0, 1) := by decide +kernel
theorem dX6_undo_45 : decode cX6_undo 45 = .ok (.getfield 136, 3) := by decide +kernel
theorem dX6_undo_48 : decode cX6_undo 48 = .ok (.imul, 1) := by decide +kernel
theorem dX6_undo_49 : decode cX6_undo 49 = .ok (.iload_n 1, 1) := by decide +kernel
theorem dX6_undo_50 : decode cX6_undo 50 = .ok (.iadd, 1) := by decide +kernel
theorem dX6_undo_51 : decode cX6_undo 51 = .ok (.iaload, 1) := by decide +kernel
theorem dX6_undo_52 : decode cX6_undo 52 = .ok (.iastore, 1) := by decide +kernel
theorem dX6_undo_53 : decode cX6_undo 53 = .ok (.iinc 1 1, 3) := by decide +kernel
theorem dX6_undo_56 : decode cX6_undo 56 = .ok (.goto (-29), 3) := by decide +kernel
theorem dX6_undo_59 : decode cX6_undo 59 = .ok (.iconst 0, 1) := by decide +kernel
theorem dX6_undo_60 : decode cX6_undo 60 = .ok (.istore_n 1, 1) := by decide +kernel
theorem dX6_undo_61 : decode cX6_undo 61 = .ok (.iload_n 1, 1) := by decide +kernel
theorem dX6_undo_62 : decode cX6_undo 62 = .ok (.iconst 5, 1) := by decide +kernel
theorem dX6_undo_63 : decode cX6_undo 63 = .ok (.if_icmp .ge 28, 3) := by decide +kernel
theorem dX6_undo_66 : decode cX6_undo 66 = .ok (.aload_n 0, 1) := by decide +kernel
theorem dX6_undo_67 : decode cX6_undo 67 = .ok (.getfield 28, 3) := by decide +kernel
theorem dX6_undo_70 : decode cX6_undo 70 = .ok (.iload_n 1, 1) := by decide +kernel
theorem dX6_undo_71 : decode cX6_undo 71 = .ok (.aload_n 0, 1) := by decide +kernel
theorem dX6_undo_72 : decode cX6_undo 72 = .ok (.getfield 41, 3) := by decide +kernel
theorem dX6_undo_75 : decode cX6_undo 75 = .ok (.iconst 5, 1) := by decide +kernel
theorem dX6_undo_76 : decode cX6_undo 76 = .ok (.aload_n 0, 1) := by decide +kernel
theorem dX6_undo_77 : decode cX6_undo 77 = .ok (.getfield 136, 3) := by decide +kernel
theorem dX6_undo_80 : decode cX6_undo 80 = .ok (.imul, 1) := by decide +kernel
theorem dX6_undo_81 : decode cX6_undo 81 = .ok (.iload_n 1, 1) := by decide +kernel
theorem dX6_undo_82 : decode cX6_undo 82 = .ok (.iadd, 1) := by decide +kernel
theorem dX6_undo_83 : decode cX6_undo 83 = .ok (.faload, 1) := by decide +kernel
theorem dX6_undo_84 : decode cX6_undo 84 = .ok (.fastore, 1) := by decide +kernel
theorem dX6_undo_85 : decode cX6_undo 85 = .ok (.iinc 1 1, 3) := by decide +kernel
theorem dX6_undo_88 : decode cX6_undo 88 = .ok (.goto (-27), 3) := by decide +kernel
theorem dX6_undo_91 : decode cX6_undo 91 = .ok (.aload_n 0, 1) := by decide +kernel
theorem dX6_undo_92 : decode cX6_undo 92 = .ok (.getfield 136, 3) := by decide +kernel
theorem dX6_undo_95 : decode cX6_undo 95 = .ok (.ireturn, 1) := by decide +kernel
set_option maxRecDepth 100000 in
set_option maxHeartbeats 4000000 in
theorem m_X6_undo {l : Launch} {D : va_G} {E : Nat → ClassId} {T : Nat → Nat} (V : TS) (o : Nat) (pa : Nat) (va : Nat) (bk : Nat) (bs : Nat) (e9 : Nat) (u0 : Value) (u1 : Value) (u2 : Value) (u3 : Value) (u4 : Value) (u5 : Value) (u6 : Value) (u7 : Value) (u8 : Value) (u9 : Value) (u10 : Value) (u13 : Value) (u14 : Value) (u18 : Value) (u19 : Value) (u20 : Value) (u21 : Value) (u22 : Value) (u23 : Value) (u24 : Value) (u25 : Value) (u26 : Value) (u27 : Value) (u28 : Value) (u29 : Value) (u30 : Value) (u31 : Value) (u32 : Value) (u33 : Value) (u34 : Value) (u35 : Value) (S : TS) (bb : Nat → Int32) (bf : Nat → UInt32) (he : e9 < 14) (hbb : ∀ j, j < 29 → bb (29 * e9 + j) = pgF V j) (hbf : ∀ j, j < 5 → bf (5 * e9 + j) = fl5 V j) : g_M l D E T yX6_undo wsX6_undo 0 0 [.ref o] [(o, .inr (6, [u0, u1, u2, u3, u4, u5, u6, u7, u8, u9, u10, .ref pa, .ref va, u13, u14, .ref bk, .ref bs, .int (nI (e9 + 1)), u18, u19, u20, u21, u22, u23, u24, u25, u26, u27, u28, u29, u30, u31, u32, u33, u34, u35])), (pa, .inl (E 0, 29, .inl (pgF S))), (va, .inl (E 1, 5, .inr (.inr (.inl (fl5 S))))), (bk, .inl (E 0, 406, .inl bb)), (bs, .inl (E 1, 70, .inr (.inr (.inl bf))))] [(o, .inr (6, [.int 0, u1, u2, u3, u4, u5, u6, u7, u8, u9, u10, .ref pa, .ref va, u13, u14, .ref bk, .ref bs, .int (nI e9), u18, u19, u20, u21, u22, u23, u24, u25, u26, u27, u28, u29, u30, u31, u32, u33, u34, u35])), (pa, .inl (E 0, 29, .inl (pgF V))), (va, .inl (E 1, 5, .inr (.inr (.inl (fl5 V))))), (bk, .inl (E 0, 406, .inl bb)), (bs, .inl (E 1, 70, .inr (.inr (.inl bf))))] (some (.int (nI e9))) := by
  refine g_M.of (cc := cX6_undo) (nL := 2) (ret := (some .int)) (own := RX6) (lv := [(0, .ref o)]) (by decide) rfl rfl (Nat.le_of_ble_eq_true rfl) rfl ?_
  intro p e R s m args below meth c A Q H locs ls hR hQ hc hr hw hl
  have hx := hc.1
  have hb := hc.2.1
  have hts := hc.2.2.2.1
  have hown := hc.2.2.2.2.1
  refine lv_aload_n hx hb dX6_undo_0 rfl (lv_at hl 0 rfl) ?_
  refine lv_iconst (v := 0) hx hb dX6_undo_1 (by decide) ?_
  refine g_put (TT := TX6) hc hw inX6_undo_X6 tyX6 tyX6_ok nmX6 0 0 1 rfl rfl (by decide) rfl rfl rfl rfl (Nat.le_of_ble_eq_true rfl) dX6_undo_2 (fun H locs hw => ?_)
  have hw : g_W D A s [(o, .inr (6, [.int 0, u1, u2, u3, u4, u5, u6, u7, u8, u9, u10, .ref pa, .ref va, u13, u14, .ref bk, .ref bs, .int (nI (e9 + 1)), u18, u19, u20, u21, u22, u23, u24, u25, u26, u27, u28, u29, u30, u31, u32, u33, u34, u35])), (pa, .inl (E 0, 29, .inl (pgF S))), (va, .inl (E 1, 5, .inr (.inr (.inl (fl5 S))))), (bk, .inl (E 0, 406, .inl bb)), (bs, .inl (E 1, 70, .inr (.inr (.inl bf))))] H locs := hw
  refine lv_aload_n hx hb dX6_undo_5 rfl (lv_at hl 0 rfl) ?_
  refine g_get (TT := TX6) hc hw inX6_undo_X6 0 17 2 rfl rfl (by decide) rfl rfl dX6_undo_6 ?_
  refine lv_if_ne (tgt := 15) hx hb dX6_undo_9 (by decide) (fun c_9 => ?_) (fun c_9 => absurd c_9 (nI_ne0 (by omega) (by omega)))
  refine lv_aload_n hx hb dX6_undo_15 rfl (lv_at hl 0 rfl) ?_
  refine lv_dup hx hb dX6_undo_16 rfl ?_
  refine g_get (TT := TX6) hc hw inX6_undo_X6 0 17 2 rfl rfl (by decide) rfl rfl dX6_undo_17 ?_
  refine lv_iconst (v := 1) hx hb dX6_undo_20 (by decide) ?_
  refine lv_isub hx hb dX6_undo_21 ?_
  refine W.eq (congrArg (fun z => F0 m 22 ls (.int z :: [.ref o])) (show ((nI (e9 + 1)) - 1 : Int32) = nI e9 from (n_sub (b := 1) rfl rfl (by omega)))) ?_
  refine g_put (TT := TX6) hc hw inX6_undo_X6 tyX6 tyX6_ok nmX6 0 17 2 rfl rfl (by decide) rfl rfl rfl rfl (Nat.le_of_ble_eq_true rfl) dX6_undo_22 (fun H locs hw => ?_)
  have hw : g_W D A s [(o, .inr (6, [.int 0, u1, u2, u3, u4, u5, u6, u7, u8, u9, u10, .ref pa, .ref va, u13, u14, .ref bk, .ref bs, .int (nI e9), u18, u19, u20, u21, u22, u23, u24, u25, u26, u27, u28, u29, u30, u31, u32, u33, u34, u35])), (pa, .inl (E 0, 29, .inl (pgF S))), (va, .inl (E 1, 5, .inr (.inr (.inl (fl5 S))))), (bk, .inl (E 0, 406, .inl bb)), (bs, .inl (E 1, 70, .inr (.inr (.inl bf))))] H locs := hw
  refine lv_iconst (v := 0) hx hb dX6_undo_25 (by decide) ?_
  refine lv_istore_n (lv' := [(1, .int 0), (0, .ref o)]) hx hb dX6_undo_26 rfl hl (by decide) rfl (fun ls hl => ?_)
  have J27 : ∀ (k9 : Nat) (i : Nat), i + k9 = 29 → ∀ (H : Heap) (locs : List Loc) (ls : Array Slot), g_W D A s [(o, .inr (6, [.int 0, u1, u2, u3, u4, u5, u6, u7, u8, u9, u10, .ref pa, .ref va, u13, u14, .ref bk, .ref bs, .int (nI e9), u18, u19, u20, u21, u22, u23, u24, u25, u26, u27, u28, u29, u30, u31, u32, u33, u34, u35])), (pa, .inl (E 0, 29, .inl (cpI (pgF V) (pgF S) i))), (va, .inl (E 1, 5, .inr (.inr (.inl (fl5 S))))), (bk, .inl (E 0, 406, .inl bb)), (bs, .inl (E 1, 70, .inr (.inr (.inl bf))))] H locs → lv_has ls 2 [(0, .ref o), (1, .int (nI i))] → W p l e R s m args below meth c H locs 0 0 Q (F0 m 27 ls []) := by
    intro k9
    induction k9 with
    | zero =>
      intro i h9   H locs ls hw hl
      have h9 : i = 29 := h9
      subst h9
      refine lv_iload_n hx hb dX6_undo_27 rfl (lv_at hl 1 rfl) ?_
      refine lv_bipush (v := 29) hx hb dX6_undo_28 (by decide) ?_
      refine lv_icmp_ge (tgt := 59) hx hb dX6_undo_30 (by decide) (fun c_30 => ?_) (fun c_30 => absurd (by first | exact Int32.le_refl _ | decide) c_30)
      have hw := g_reI (q0 := 1) (g := pgF V) hw rfl (cpI_n _ _ 29)
      have hw : g_W D A s [(o, .inr (6, [.int 0, u1, u2, u3, u4, u5, u6, u7, u8, u9, u10, .ref pa, .ref va, u13, u14, .ref bk, .ref bs, .int (nI e9), u18, u19, u20, u21, u22, u23, u24, u25, u26, u27, u28, u29, u30, u31, u32, u33, u34, u35])), (pa, .inl (E 0, 29, .inl (pgF V))), (va, .inl (E 1, 5, .inr (.inr (.inl (fl5 S))))), (bk, .inl (E 0, 406, .inl bb)), (bs, .inl (E 1, 70, .inr (.inr (.inl bf))))] H locs := hw
      refine lv_iconst (v := 0) hx hb dX6_undo_59 (by decide) ?_
      refine lv_istore_n (lv' := [(1, .int 0), (0, .ref o)]) hx hb dX6_undo_60 rfl hl (by decide) rfl (fun ls hl => ?_)
      have J61 : ∀ (k9 : Nat) (i : Nat), i + k9 = 5 → ∀ (H : Heap) (locs : List Loc) (ls : Array Slot), g_W D A s [(o, .inr (6, [.int 0, u1, u2, u3, u4, u5, u6, u7, u8, u9, u10, .ref pa, .ref va, u13, u14, .ref bk, .ref bs, .int (nI e9), u18, u19, u20, u21, u22, u23, u24, u25, u26, u27, u28, u29, u30, u31, u32, u33, u34, u35])), (pa, .inl (E 0, 29, .inl (pgF V))), (va, .inl (E 1, 5, .inr (.inr (.inl (cpF (fl5 V) (fl5 S) i))))), (bk, .inl (E 0, 406, .inl bb)), (bs, .inl (E 1, 70, .inr (.inr (.inl bf))))] H locs → lv_has ls 2 [(0, .ref o), (1, .int (nI i))] → W p l e R s m args below meth c H locs 0 0 Q (F0 m 61 ls []) := by
        intro k9
        induction k9 with
        | zero =>
          intro i h9   H locs ls hw hl
          have h9 : i = 5 := h9
          subst h9
          refine lv_iload_n hx hb dX6_undo_61 rfl (lv_at hl 1 rfl) ?_
          refine lv_iconst (v := 5) hx hb dX6_undo_62 (by decide) ?_
          refine lv_icmp_ge (tgt := 91) hx hb dX6_undo_63 (by decide) (fun c_63 => ?_) (fun c_63 => absurd (by first | exact Int32.le_refl _ | decide) c_63)
          have hw := g_reF (q0 := 2) (g := fl5 V) hw rfl (cpF_n _ _ 5)
          have hw : g_W D A s [(o, .inr (6, [.int 0, u1, u2, u3, u4, u5, u6, u7, u8, u9, u10, .ref pa, .ref va, u13, u14, .ref bk, .ref bs, .int (nI e9), u18, u19, u20, u21, u22, u23, u24, u25, u26, u27, u28, u29, u30, u31, u32, u33, u34, u35])), (pa, .inl (E 0, 29, .inl (pgF V))), (va, .inl (E 1, 5, .inr (.inr (.inl (fl5 V))))), (bk, .inl (E 0, 406, .inl bb)), (bs, .inl (E 1, 70, .inr (.inr (.inl bf))))] H locs := hw
          refine lv_aload_n hx hb dX6_undo_91 rfl (lv_at hl 0 rfl) ?_
          refine g_get (TT := TX6) hc hw inX6_undo_X6 0 17 2 rfl rfl (by decide) rfl rfl dX6_undo_92 ?_
          exact g_iret hQ hc hw hr rfl rfl dX6_undo_95
        | succ k9 ih =>
          intro i h9   H locs ls hw hl
          have h9b : i < 5 := by omega
          refine lv_iload_n hx hb dX6_undo_61 rfl (lv_at hl 1 rfl) ?_
          refine lv_iconst (v := 5) hx hb dX6_undo_62 (by decide) ?_
          refine lv_icmp_ge (tgt := 91) hx hb dX6_undo_63 (by decide) (fun c_63 => absurd c_63 (nI_ge h9b (by decide))) (fun c_63 => ?_)
          refine lv_aload_n hx hb dX6_undo_66 rfl (lv_at hl 0 rfl) ?_
          refine g_get (TT := TX6) hc hw inX6_undo_X6 0 12 5 rfl rfl (by decide) rfl rfl dX6_undo_67 ?_
          refine lv_iload_n hx hb dX6_undo_70 rfl (lv_at hl 1 rfl) ?_
          refine lv_aload_n hx hb dX6_undo_71 rfl (lv_at hl 0 rfl) ?_
          refine g_get (TT := TX6) hc hw inX6_undo_X6 0 16 6 rfl rfl (by decide) rfl rfl dX6_undo_72 ?_
          refine lv_iconst (v := 5) hx hb dX6_undo_75 (by decide) ?_
          refine lv_aload_n hx hb dX6_undo_76 rfl (lv_at hl 0 rfl) ?_
          refine g_get (TT := TX6) hc hw inX6_undo_X6 0 17 2 rfl rfl (by decide) rfl rfl dX6_undo_77 ?_
          refine lv_imul hx hb dX6_undo_80 ?_
          refine lv_iload_n hx hb dX6_undo_81 rfl (lv_at hl 1 rfl) ?_
          refine lv_iadd hx hb dX6_undo_82 ?_
          refine g_fld hc hw 4 ((5 * e9) + i) rfl (n_add (n_mul rfl rfl) rfl) (by omega) (by decide) dX6_undo_83 ?_
          refine g_fst hc hw 2 i rfl rfl (by omega) (by decide) dX6_undo_84 (fun H locs hw => ?_)
          have hw : g_W D A s [(o, .inr (6, [.int 0, u1, u2, u3, u4, u5, u6, u7, u8, u9, u10, .ref pa, .ref va, u13, u14, .ref bk, .ref bs, .int (nI e9), u18, u19, u20, u21, u22, u23, u24, u25, u26, u27, u28, u29, u30, u31, u32, u33, u34, u35])), (pa, .inl (E 0, 29, .inl (pgF V))), (va, .inl (E 1, 5, .inr (.inr (.inl (vf_upd (cpF (fl5 V) (fl5 S) i) i (bf ((5 * e9) + i))))))), (bk, .inl (E 0, 406, .inl bb)), (bs, .inl (E 1, 70, .inr (.inr (.inl bf))))] H locs := hw
          refine lv_iinc (v := nI (i + 1)) (lv' := [(1, .int (nI (i + 1))), (0, .ref o)]) hx hb dX6_undo_85 hl (k := 1) rfl (n_inc1 rfl) (by decide) rfl (fun ls hl => ?_)
          refine lv_goto (tgt := 61) hx hb dX6_undo_88 (by decide) ?_
          have hw : g_W D A s [(o, .inr (6, [.int 0, u1, u2, u3, u4, u5, u6, u7, u8, u9, u10, .ref pa, .ref va, u13, u14, .ref bk, .ref bs, .int (nI e9), u18, u19, u20, u21, u22, u23, u24, u25, u26, u27, u28, u29, u30, u31, u32, u33, u34, u35])), (pa, .inl (E 0, 29, .inl (pgF V))), (va, .inl (E 1, 5, .inr (.inr (.inl (cpF (fl5 V) (fl5 S) (i + 1)))))), (bk, .inl (E 0, 406, .inl bb)), (bs, .inl (E 1, 70, .inr (.inr (.inl bf))))] H locs := by
            have e2 : (vf_upd (cpF (fl5 V) (fl5 S) i) i (bf ((5 * e9) + i))) = (cpF (fl5 V) (fl5 S) (i + 1)) := by exact cpF_s _ (hbf i (by omega))
            rw [e2] at hw
            exact hw
          exact ih (i + 1) (by omega)   _ _ _ hw (lv_sub hl [1, 0] rfl)
      have hw : g_W D A s [(o, .inr (6, [.int 0, u1, u2, u3, u4, u5, u6, u7, u8, u9, u10, .ref pa, .ref va, u13, u14, .ref bk, .ref bs, .int (nI e9), u18, u19, u20, u21, u22, u23, u24, u25, u26, u27, u28, u29, u30, u31, u32, u33, u34, u35])), (pa, .inl (E 0, 29, .inl (pgF V))), (va, .inl (E 1, 5, .inr (.inr (.inl (cpF (fl5 V) (fl5 S) 0))))), (bk, .inl (E 0, 406, .inl bb)), (bs, .inl (E 1, 70, .inr (.inr (.inl bf))))] H locs := by
        have e2 : (fl5 S) = (cpF (fl5 V) (fl5 S) 0) := by exact cpF_0 _ _
        rw [e2] at hw
        exact hw
      exact J61 5 0 (by omega)   _ _ _ hw (lv_sub hl [1, 0] rfl)
    | succ k9 ih =>
      intro i h9   H locs ls hw hl
      have h9b : i < 29 := by omega
      refine lv_iload_n hx hb dX6_undo_27 rfl (lv_at hl 1 rfl) ?_
      refine lv_bipush (v := 29) hx hb dX6_undo_28 (by decide) ?_
      refine lv_icmp_ge (tgt := 59) hx hb dX6_undo_30 (by decide) (fun c_30 => absurd c_30 (nI_ge h9b (by decide))) (fun c_30 => ?_)
      refine lv_aload_n hx hb dX6_undo_33 rfl (lv_at hl 0 rfl) ?_
      refine g_get (TT := TX6) hc hw inX6_undo_X6 0 11 3 rfl rfl (by decide) rfl rfl dX6_undo_34 ?_
      refine lv_iload_n hx hb dX6_undo_37 rfl (lv_at hl 1 rfl) ?_
      refine lv_aload_n hx hb dX6_undo_38 rfl (lv_at hl 0 rfl) ?_
      refine g_get (TT := TX6) hc hw inX6_undo_X6 0 15 4 rfl rfl (by decide) rfl rfl dX6_undo_39 ?_
      refine lv_bipush (v := 29) hx hb dX6_undo_42 (by decide) ?_
      refine lv_aload_n hx hb dX6_undo_44 rfl (lv_at hl 0 rfl) ?_
      refine g_get (TT := TX6) hc hw inX6_undo_X6 0 17 2 rfl rfl (by decide) rfl rfl dX6_undo_45 ?_
      refine lv_imul hx hb dX6_undo_48 ?_
      refine lv_iload_n hx hb dX6_undo_49 rfl (lv_at hl 1 rfl) ?_
      refine lv_iadd hx hb dX6_undo_50 ?_
      refine g_ild hc hw 3 ((29 * e9) + i) rfl (n_add (n_mul rfl rfl) rfl) (by omega) (by decide) dX6_undo_51 ?_
      refine g_ist hc hw 1 i rfl rfl (by omega) (by decide) dX6_undo_52 (fun H locs hw => ?_)
      have hw : g_W D A s [(o, .inr (6, [.int 0, u1, u2, u3, u4, u5, u6, u7, u8, u9, u10, .ref pa, .ref va, u13, u14, .ref bk, .ref bs, .int (nI e9), u18, u19, u20, u21, u22, u23, u24, u25, u26, u27, u28, u29, u30, u31, u32, u33, u34, u35])), (pa, .inl (E 0, 29, .inl (upd (cpI (pgF V) (pgF S) i) i (bb ((29 * e9) + i))))), (va, .inl (E 1, 5, .inr (.inr (.inl (fl5 S))))), (bk, .inl (E 0, 406, .inl bb)), (bs, .inl (E 1, 70, .inr (.inr (.inl bf))))] H locs := hw
      refine lv_iinc (v := nI (i + 1)) (lv' := [(1, .int (nI (i + 1))), (0, .ref o)]) hx hb dX6_undo_53 hl (k := 1) rfl (n_inc1 rfl) (by decide) rfl (fun ls hl => ?_)
      refine lv_goto (tgt := 27) hx hb dX6_undo_56 (by decide) ?_
      have hw : g_W D A s [(o, .inr (6, [.int 0, u1, u2, u3, u4, u5, u6, u7, u8, u9, u10, .ref pa, .ref va, u13, u14, .ref bk, .ref bs, .int (nI e9), u18, u19, u20, u21, u22, u23, u24, u25, u26, u27, u28, u29, u30, u31, u32, u33, u34, u35])), (pa, .inl (E 0, 29, .inl (cpI (pgF V) (pgF S) (i + 1)))), (va, .inl (E 1, 5, .inr (.inr (.inl (fl5 S))))), (bk, .inl (E 0, 406, .inl bb)), (bs, .inl (E 1, 70, .inr (.inr (.inl bf))))] H locs := by
        have e1 : (upd (cpI (pgF V) (pgF S) i) i (bb ((29 * e9) + i))) = (cpI (pgF V) (pgF S) (i + 1)) := by exact cpI_s _ (hbb i (by omega))
        rw [e1] at hw
        exact hw
      exact ih (i + 1) (by omega)   _ _ _ hw (lv_sub hl [1, 0] rfl)
  have hw : g_W D A s [(o, .inr (6, [.int 0, u1, u2, u3, u4, u5, u6, u7, u8, u9, u10, .ref pa, .ref va, u13, u14, .ref bk, .ref bs, .int (nI e9), u18, u19, u20, u21, u22, u23, u24, u25, u26, u27, u28, u29, u30, u31, u32, u33, u34, u35])), (pa, .inl (E 0, 29, .inl (cpI (pgF V) (pgF S) 0))), (va, .inl (E 1, 5, .inr (.inr (.inl (fl5 S))))), (bk, .inl (E 0, 406, .inl bb)), (bs, .inl (E 1, 70, .inr (.inr (.inl bf))))] H locs := by
    have e1 : (pgF S) = (cpI (pgF V) (pgF S) 0) := by exact cpI_0 _ _
    rw [e1] at hw
    exact hw
  exact J27 29 0 (by omega)   _ _ _ hw (lv_sub hl [1, 0] rfl)

theorem dX6_keep_0 : decode cX6_keep 0 = .ok (.aload_n 0, 1) := by decide +kernel
theorem dX6_keep_1 : decode cX6_keep 1 = .ok (.iconst 0, 1) := by decide +kernel
theorem dX6_keep_2 : decode cX6_keep 2 = .ok (.putfield 88, 3) := by decide +kernel
theorem dX6_keep_5 : decode cX6_keep 5 = .ok (.iload_n 1, 1) := by decide +kernel
theorem dX6_keep_6 : decode cX6_keep 6 = .ok (.i2l, 1) := by decide +kernel
theorem dX6_keep_7 : decode cX6_keep 7 = .ok (.lconst 0, 1) := by decide +kernel
theorem dX6_keep_8 : decode cX6_keep 8 = .ok (.lconst 1, 1) := by decide +kernel
theorem dX6_keep_9 : decode cX6_keep 9 = .ok (.invokestatic 94, 3) := by decide +kernel
theorem dX6_keep_12 : decode cX6_keep 12 = .ok (.ifCond .ne 5, 3) := by decide +kernel
theorem dX6_keep_15 : decode cX6_keep 15 = .ok (.iconst (-1), 1) := by decide +kernel
theorem dX6_keep_16 : decode cX6_keep 16 = .ok (.ireturn, 1) := by decide +kernel
set_option maxRecDepth 20000 in
theorem ggX6_keep_X6_in : GoodIn wsX6_keep wsX6_in := goodIn_r _ [10] rfl (by decide +kernel)
set_option maxRecDepth 20000 in
theorem gX6_keep_X6_in : GoodIn wsX6_keep (va_wsS RX6 94 yX6_in wsX6_in) := goodIn_app (goodIn_of _ (by decide +kernel)) ggX6_keep_X6_in
theorem inX6_keep_X6 : ∀ w ∈ u_ws RX6 TX6 36, w ∈ wsX6_keep := fun w h => List.mem_cons_of_mem _ (List.mem_append_right _ h)
set_option maxRecDepth 100000 in
set_option maxHeartbeats 4000000 in
theorem m_X6_keep_out {l : Launch} {D : va_G} {E : Nat → ClassId} {T : Nat → Nat} (o : Nat) (u0 : Value) (u1 : Value) (u2 : Value) (u3 : Value) (u4 : Value) (u5 : Value) (u6 : Value) (u7 : Value) (u8 : Value) (u9 : Value) (u10 : Value) (u11 : Value) (u12 : Value) (u13 : Value) (u14 : Value) (u15 : Value) (u16 : Value) (u17 : Value) (u18 : Value) (u19 : Value) (u20 : Value) (u21 : Value) (u22 : Value) (u23 : Value) (u24 : Value) (u25 : Value) (u26 : Value) (u27 : Value) (u28 : Value) (u29 : Value) (u30 : Value) (u31 : Value) (u32 : Value) (u33 : Value) (u34 : Value) (u35 : Value) (v : Int32) (ho : outB v 0 1 = true) : g_M l D E T yX6_keep wsX6_keep 1 25 [.ref o, .int v] [(o, .inr (6, [u0, u1, u2, u3, u4, u5, u6, u7, u8, u9, u10, u11, u12, u13, u14, u15, u16, u17, u18, u19, u20, u21, u22, u23, u24, u25, u26, u27, u28, u29, u30, u31, u32, u33, u34, u35]))] [(o, .inr (6, [.int 0, u1, u2, u3, u4, u5, u6, u7, u8, u9, u10, u11, u12, u13, u14, u15, u16, u17, u18, u19, u20, u21, u22, u23, u24, u25, u26, u27, u28, u29, u30, u31, u32, u33, u34, u35]))] (some (.int (-1))) := by
  refine g_M.of (cc := cX6_keep) (nL := 3) (ret := (some .int)) (own := RX6) (lv := [(0, .ref o), (1, .int v)]) (by decide) rfl rfl (Nat.le_of_ble_eq_true rfl) rfl ?_
  intro p e R s m args below meth c A Q H locs ls hR hQ hc hr hw hl
  have hx := hc.1
  have hb := hc.2.1
  have hts := hc.2.2.2.1
  have hown := hc.2.2.2.2.1
  refine lv_aload_n hx hb dX6_keep_0 rfl (lv_at hl 0 rfl) ?_
  refine lv_iconst (v := 0) hx hb dX6_keep_1 (by decide) ?_
  refine g_put (TT := TX6) hc hw inX6_keep_X6 tyX6 tyX6_ok nmX6 0 0 1 rfl rfl (by decide) rfl rfl rfl rfl (Nat.le_of_ble_eq_true rfl) dX6_keep_2 (fun H locs hw => ?_)
  have hw : g_W D A s [(o, .inr (6, [.int 0, u1, u2, u3, u4, u5, u6, u7, u8, u9, u10, u11, u12, u13, u14, u15, u16, u17, u18, u19, u20, u21, u22, u23, u24, u25, u26, u27, u28, u29, u30, u31, u32, u33, u34, u35]))] H locs := hw
  refine lv_iload_n hx hb dX6_keep_5 rfl (lv_at hl 1 rfl) ?_
  refine lv_i2l hx hb dX6_keep_6 rfl ?_
  refine lv_lconst (v := 0) hx hb dX6_keep_7 (by decide) ?_
  refine lv_lconst (v := 1) hx hb dX6_keep_8 (by decide) ?_
  refine g_cS (As := [.long v.toInt64, .long 0, .long 1]) (n := 3) (rest := []) (wc := []) (w1 := []) (bytes := cX6_in) (maxL := 6) (ret := (some .boolean)) hc hw hl.1 (m_X6_in (l := l) (D := D) (E := E) (T := T) v.toInt64 0 1) gX6_keep_X6_in rfl (by decide +kernel) (by rw [hR]; exact ⟨Nat.le_of_ble_eq_true rfl, Nat.le_of_ble_eq_true rfl⟩) [] (by decide) rfl [] rfl rfl rfl rfl (Nat.le_of_ble_eq_true rfl) dX6_keep_9 ⟨Nat.zero_le _, Nat.zero_le _⟩ (fun H locs hw => ?_)
  have hw : g_W D A s [(o, .inr (6, [.int 0, u1, u2, u3, u4, u5, u6, u7, u8, u9, u10, u11, u12, u13, u14, u15, u16, u17, u18, u19, u20, u21, u22, u23, u24, u25, u26, u27, u28, u29, u30, u31, u32, u33, u34, u35]))] H locs := hw
  refine W.eq (congrArg (fun z => F0 m 12 ls (.int z :: [])) (show (b2i (inL v.toInt64 0 1) : Int32) = 0 from (congrArg b2i (in_o (a := 0) (b := 1) ho (by decide) (by decide))))) ?_
  refine lv_if_ne (tgt := 17) hx hb dX6_keep_12 (by decide) (fun c_12 => absurd c_12 (by decide)) (fun c_12 => ?_)
  refine lv_iconst (v := (-1)) hx hb dX6_keep_15 (by decide) ?_
  exact g_iret hQ hc hw hr rfl rfl dX6_keep_16

theorem dX6_keep_17 : decode cX6_keep 17 = .ok (.aload_n 0, 1) := by decide +kernel
theorem dX6_keep_18 : decode cX6_keep 18 = .ok (.getfield 50, 3) := by decide +kernel
theorem dX6_keep_21 : decode cX6_keep 21 = .ok (.iload_n 1, 1) := by decide +kernel
theorem dX6_keep_22 : decode cX6_keep 22 = .ok (.iconst 1, 1) := by decide +kernel
theorem dX6_keep_23 : decode cX6_keep 23 = .ok (.bastore, 1) := by decide +kernel
theorem dX6_keep_24 : decode cX6_keep 24 = .ok (.iconst 0, 1) := by decide +kernel
theorem dX6_keep_25 : decode cX6_keep 25 = .ok (.istore_n 2, 1) := by decide +kernel
theorem dX6_keep_26 : decode cX6_keep 26 = .ok (.iload_n 2, 1) := by decide +kernel
theorem dX6_keep_27 : decode cX6_keep 27 = .ok (.bipush 29, 2) := by decide +kernel
theorem dX6_keep_29 : decode cX6_keep 29 = .ok (.if_icmp .ge 26, 3) := by decide +kernel
theorem dX6_keep_32 : decode cX6_keep 32 = .ok (.aload_n 0, 1) := by decide +kernel
theorem dX6_keep_33 : decode cX6_keep 33 = .ok (.getfield 44, 3) := by decide +kernel
theorem dX6_keep_36 : decode cX6_keep 36 = .ok (.bipush 29, 2) := by decide +kernel
theorem dX6_keep_38 : decode cX6_keep 38 = .ok (.iload_n 1, 1) := by decide +kernel
theorem dX6_keep_39 : decode cX6_keep 39 = .ok (.imul, 1) := by decide +kernel
theorem dX6_keep_40 : decode cX6_keep 40 = .ok (.iload_n 2, 1) := by decide +kernel
theorem dX6_keep_41 : decode cX6_keep 41 = .ok (.iadd, 1) := by decide +kernel
theorem dX6_keep_42 : decode cX6_keep 42 = .ok (.aload_n 0, 1) := by decide +kernel
theorem dX6_keep_43 : decode cX6_keep 43 = .ok (.getfield 25, 3) := by decide +kernel
theorem dX6_keep_46 : decode cX6_keep 46 = .ok (.iload_n 2, 1) := by decide +kernel
theorem dX6_keep_47 : decode cX6_keep 47 = .ok (.iaload, 1) := by decide +kernel
theorem dX6_keep_48 : decode cX6_keep 48 = .ok (.iastore, 1) := by decide +kernel
theorem dX6_keep_49 : decode cX6_keep 49 = .ok (.iinc 2 1, 3) := by decide +kernel
theorem dX6_keep_52 : decode cX6_keep 52 = .ok (.goto (-26), 3) := by decide +kernel
theorem dX6_keep_55 : decode cX6_keep 55 = .ok (.iconst 0, 1) := by decide +kernel
theorem dX6_keep_56 : decode cX6_keep 56 = .ok (.istore_n 2, 1) := by decide +kernel
theorem dX6_keep_57 : decode cX6_keep 57 = .ok (.iload_n 2, 1) := by decide +kernel
theorem dX6_keep_58 : decode cX6_keep 58 = .ok (.iconst 5, 1) := by decide +kernel
theorem dX6_keep_59 : decode cX6_keep 59 = .ok (.if_icmp .ge 25, 3) := by decide +kernel
theorem dX6_keep_62 : decode cX6_keep 62 = .ok (.aload_n 0, 1) := by decide +kernel
theorem dX6_keep_63 : decode cX6_keep 63 = .ok (.getfield 47, 3) := by decide +kernel
theorem dX6_keep_66 : decode cX6_keep 66 = .ok (.iconst 5, 1) := by decide +kernel
theorem dX6_keep_67 : decode cX6_keep 67 = .ok (.iload_n 1, 1) := by decide +kernel
theorem dX6_keep_68 : decode cX6_keep 68 = .ok (.imul, 1) := by decide +kernel
theorem dX6_keep_69 : decode cX6_keep 69 = .ok (.iload_n 2, 1) := by decide +kernel
theorem dX6_keep_70 : decode cX6_keep 70 = .ok (.iadd, 1) := by decide +kernel
theorem dX6_keep_71 : decode cX6_keep 71 = .ok (.aload_n 0, 1) := by decide +kernel
theorem dX6_keep_72 : decode cX6_keep 72 = .ok (.getfield 28, 3) := by decide +kernel
theorem dX6_keep_75 : decode cX6_keep 75 = .ok (.iload_n 2, 1) := by decide +kernel
theorem dX6_keep_76 : decode cX6_keep 76 = .ok (.faload, 1) := by decide +kernel
theorem dX6_keep_77 : decode cX6_keep 77 = .ok (.fastore, 1) := by decide +kernel
theorem dX6_keep_78 : decode cX6_keep 78 = .ok (.iinc 2 1, 3) := by decide +kernel
theorem dX6_keep_81 : decode cX6_keep 81 = .ok (.goto (-24), 3) := by decide +kernel
theorem dX6_keep_84 : decode cX6_keep 84 = .ok (.aload_n 0, 1) := by decide +kernel
theorem dX6_keep_85 : decode cX6_keep 85 = .ok (.getfield 25, 3) := by decide +kernel
theorem dX6_keep_88 : decode cX6_keep 88 = .ok (.bipush 6, 2) := by decide +kernel
theorem dX6_keep_90 : decode cX6_keep 90 = .ok (.iaload, 1) := by decide +kernel
theorem dX6_keep_91 : decode cX6_keep 91 = .ok (.ireturn, 1) := by decide +kernel
set_option maxRecDepth 100000 in
set_option maxHeartbeats 4000000 in
theorem m_X6_keep {l : Launch} {D : va_G} {E : Nat → ClassId} {T : Nat → Nat} (o : Nat) (pa : Nat) (va : Nat) (kp : Nat) (kf : Nat) (ik : Nat) (i0 : Nat) (u0 : Value) (u1 : Value) (u2 : Value) (u3 : Value) (u4 : Value) (u5 : Value) (u6 : Value) (u7 : Value) (u8 : Value) (u9 : Value) (u10 : Value) (u13 : Value) (u14 : Value) (u15 : Value) (u16 : Value) (u17 : Value) (u21 : Value) (u22 : Value) (u23 : Value) (u24 : Value) (u25 : Value) (u26 : Value) (u27 : Value) (u28 : Value) (u29 : Value) (u30 : Value) (u31 : Value) (u32 : Value) (u33 : Value) (u34 : Value) (u35 : Value) (S : TS) (kp9 : Nat → Int32) (kf9 : Nat → UInt32) (kb : Nat → Int32) (hi9 : i0 ≤ 1) : g_M l D E T yX6_keep wsX6_keep 1 25 [.ref o, .int (nI i0)] [(o, .inr (6, [u0, u1, u2, u3, u4, u5, u6, u7, u8, u9, u10, .ref pa, .ref va, u13, u14, u15, u16, u17, .ref kp, .ref kf, .ref ik, u21, u22, u23, u24, u25, u26, u27, u28, u29, u30, u31, u32, u33, u34, u35])), (pa, .inl (E 0, 29, .inl (pgF S))), (va, .inl (E 1, 5, .inr (.inr (.inl (fl5 S))))), (kp, .inl (E 0, 58, .inl kp9)), (kf, .inl (E 1, 10, .inr (.inr (.inl kf9)))), (ik, .inl (E 3, 2, .inl kb))] [(o, .inr (6, [.int 0, u1, u2, u3, u4, u5, u6, u7, u8, u9, u10, .ref pa, .ref va, u13, u14, u15, u16, u17, .ref kp, .ref kf, .ref ik, u21, u22, u23, u24, u25, u26, u27, u28, u29, u30, u31, u32, u33, u34, u35])), (pa, .inl (E 0, 29, .inl (pgF S))), (va, .inl (E 1, 5, .inr (.inr (.inl (fl5 S))))), (kp, .inl (E 0, 58, .inl (ovI kp9 (29 * i0) (pgF S) 29))), (kf, .inl (E 1, 10, .inr (.inr (.inl (ovF kf9 (5 * i0) (fl5 S) 5))))), (ik, .inl (E 3, 2, .inl (upd kb i0 1)))] (some (.int (nI (sK S)))) := by
  refine g_M.of (cc := cX6_keep) (nL := 3) (ret := (some .int)) (own := RX6) (lv := [(0, .ref o), (1, .int (nI i0))]) (by decide) rfl rfl (Nat.le_of_ble_eq_true rfl) rfl ?_
  intro p e R s m args below meth c A Q H locs ls hR hQ hc hr hw hl
  have hx := hc.1
  have hb := hc.2.1
  have hts := hc.2.2.2.1
  have hown := hc.2.2.2.2.1
  refine lv_aload_n hx hb dX6_keep_0 rfl (lv_at hl 0 rfl) ?_
  refine lv_iconst (v := 0) hx hb dX6_keep_1 (by decide) ?_
  refine g_put (TT := TX6) hc hw inX6_keep_X6 tyX6 tyX6_ok nmX6 0 0 1 rfl rfl (by decide) rfl rfl rfl rfl (Nat.le_of_ble_eq_true rfl) dX6_keep_2 (fun H locs hw => ?_)
  have hw : g_W D A s [(o, .inr (6, [.int 0, u1, u2, u3, u4, u5, u6, u7, u8, u9, u10, .ref pa, .ref va, u13, u14, u15, u16, u17, .ref kp, .ref kf, .ref ik, u21, u22, u23, u24, u25, u26, u27, u28, u29, u30, u31, u32, u33, u34, u35])), (pa, .inl (E 0, 29, .inl (pgF S))), (va, .inl (E 1, 5, .inr (.inr (.inl (fl5 S))))), (kp, .inl (E 0, 58, .inl kp9)), (kf, .inl (E 1, 10, .inr (.inr (.inl kf9)))), (ik, .inl (E 3, 2, .inl kb))] H locs := hw
  refine lv_iload_n hx hb dX6_keep_5 rfl (lv_at hl 1 rfl) ?_
  refine lv_i2l hx hb dX6_keep_6 rfl ?_
  refine lv_lconst (v := 0) hx hb dX6_keep_7 (by decide) ?_
  refine lv_lconst (v := 1) hx hb dX6_keep_8 (by decide) ?_
  refine g_cS (As := [.long ((nI i0).toInt64), .long 0, .long 1]) (n := 3) (rest := []) (wc := []) (w1 := []) (bytes := cX6_in) (maxL := 6) (ret := (some .boolean)) hc hw hl.1 (m_X6_in (l := l) (D := D) (E := E) (T := T) ((nI i0).toInt64) 0 1) gX6_keep_X6_in rfl (by decide +kernel) (by rw [hR]; exact ⟨Nat.le_of_ble_eq_true rfl, Nat.le_of_ble_eq_true rfl⟩) [] (by decide) rfl [] rfl rfl rfl rfl (Nat.le_of_ble_eq_true rfl) dX6_keep_9 ⟨Nat.zero_le _, Nat.zero_le _⟩ (fun H locs hw => ?_)
  have hw : g_W D A s [(o, .inr (6, [.int 0, u1, u2, u3, u4, u5, u6, u7, u8, u9, u10, .ref pa, .ref va, u13, u14, u15, u16, u17, .ref kp, .ref kf, .ref ik, u21, u22, u23, u24, u25, u26, u27, u28, u29, u30, u31, u32, u33, u34, u35])), (pa, .inl (E 0, 29, .inl (pgF S))), (va, .inl (E 1, 5, .inr (.inr (.inl (fl5 S))))), (kp, .inl (E 0, 58, .inl kp9)), (kf, .inl (E 1, 10, .inr (.inr (.inl kf9)))), (ik, .inl (E 3, 2, .inl kb))] H locs := hw
  refine W.eq (congrArg (fun z => F0 m 12 ls (.int z :: [])) (show (b2i (inL ((nI i0).toInt64) 0 1) : Int32) = 1 from (congrArg b2i (in_i (out_nf (n := i0) (a := 0) (b := 1) (by omega) hi9 (by decide)) (by decide) (by decide))))) ?_
  refine lv_if_ne (tgt := 17) hx hb dX6_keep_12 (by decide) (fun c_12 => ?_) (fun c_12 => absurd c_12 (by decide))
  refine lv_aload_n hx hb dX6_keep_17 rfl (lv_at hl 0 rfl) ?_
  refine g_get (TT := TX6) hc hw inX6_keep_X6 0 20 2 rfl rfl (by decide) rfl rfl dX6_keep_18 ?_
  refine lv_iload_n hx hb dX6_keep_21 rfl (lv_at hl 1 rfl) ?_
  refine lv_iconst (v := 1) hx hb dX6_keep_22 (by decide) ?_
  refine g_zst (x' := 1) hc hw 5 i0 rfl rfl (by omega) (by decide) rfl dX6_keep_23 (fun H locs hw => ?_)
  have hw : g_W D A s [(o, .inr (6, [.int 0, u1, u2, u3, u4, u5, u6, u7, u8, u9, u10, .ref pa, .ref va, u13, u14, u15, u16, u17, .ref kp, .ref kf, .ref ik, u21, u22, u23, u24, u25, u26, u27, u28, u29, u30, u31, u32, u33, u34, u35])), (pa, .inl (E 0, 29, .inl (pgF S))), (va, .inl (E 1, 5, .inr (.inr (.inl (fl5 S))))), (kp, .inl (E 0, 58, .inl kp9)), (kf, .inl (E 1, 10, .inr (.inr (.inl kf9)))), (ik, .inl (E 3, 2, .inl (upd kb i0 1)))] H locs := hw
  refine lv_iconst (v := 0) hx hb dX6_keep_24 (by decide) ?_
  refine lv_istore_n (lv' := [(2, .int 0), (0, .ref o), (1, .int (nI i0))]) hx hb dX6_keep_25 rfl hl (by decide) rfl (fun ls hl => ?_)
  have J26 : ∀ (k9 : Nat) (i : Nat), i + k9 = 29 → ∀ (H : Heap) (locs : List Loc) (ls : Array Slot), g_W D A s [(o, .inr (6, [.int 0, u1, u2, u3, u4, u5, u6, u7, u8, u9, u10, .ref pa, .ref va, u13, u14, u15, u16, u17, .ref kp, .ref kf, .ref ik, u21, u22, u23, u24, u25, u26, u27, u28, u29, u30, u31, u32, u33, u34, u35])), (pa, .inl (E 0, 29, .inl (pgF S))), (va, .inl (E 1, 5, .inr (.inr (.inl (fl5 S))))), (kp, .inl (E 0, 58, .inl (ovI kp9 (29 * i0) (pgF S) i))), (kf, .inl (E 1, 10, .inr (.inr (.inl kf9)))), (ik, .inl (E 3, 2, .inl (upd kb i0 1)))] H locs → lv_has ls 3 [(0, .ref o), (1, .int (nI i0)), (2, .int (nI i))] → W p l e R s m args below meth c H locs 0 0 Q (F0 m 26 ls []) := by
    intro k9
    induction k9 with
    | zero =>
      intro i h9   H locs ls hw hl
      have h9 : i = 29 := h9
      subst h9
      refine lv_iload_n hx hb dX6_keep_26 rfl (lv_at hl 2 rfl) ?_
      refine lv_bipush (v := 29) hx hb dX6_keep_27 (by decide) ?_
      refine lv_icmp_ge (tgt := 55) hx hb dX6_keep_29 (by decide) (fun c_29 => ?_) (fun c_29 => absurd (by first | exact Int32.le_refl _ | decide) c_29)
      refine lv_iconst (v := 0) hx hb dX6_keep_55 (by decide) ?_
      refine lv_istore_n (lv' := [(2, .int 0), (0, .ref o), (1, .int (nI i0))]) hx hb dX6_keep_56 rfl hl (by decide) rfl (fun ls hl => ?_)
      have J57 : ∀ (k9 : Nat) (i : Nat), i + k9 = 5 → ∀ (H : Heap) (locs : List Loc) (ls : Array Slot), g_W D A s [(o, .inr (6, [.int 0, u1, u2, u3, u4, u5, u6, u7, u8, u9, u10, .ref pa, .ref va, u13, u14, u15, u16, u17, .ref kp, .ref kf, .ref ik, u21, u22, u23, u24, u25, u26, u27, u28, u29, u30, u31, u32, u33, u34, u35])), (pa, .inl (E 0, 29, .inl (pgF S))), (va, .inl (E 1, 5, .inr (.inr (.inl (fl5 S))))), (kp, .inl (E 0, 58, .inl (ovI kp9 (29 * i0) (pgF S) 29))), (kf, .inl (E 1, 10, .inr (.inr (.inl (ovF kf9 (5 * i0) (fl5 S) i))))), (ik, .inl (E 3, 2, .inl (upd kb i0 1)))] H locs → lv_has ls 3 [(0, .ref o), (1, .int (nI i0)), (2, .int (nI i))] → W p l e R s m args below meth c H locs 0 0 Q (F0 m 57 ls []) := by
        intro k9
        induction k9 with
        | zero =>
          intro i h9   H locs ls hw hl
          have h9 : i = 5 := h9
          subst h9
          refine lv_iload_n hx hb dX6_keep_57 rfl (lv_at hl 2 rfl) ?_
          refine lv_iconst (v := 5) hx hb dX6_keep_58 (by decide) ?_
          refine lv_icmp_ge (tgt := 84) hx hb dX6_keep_59 (by decide) (fun c_59 => ?_) (fun c_59 => absurd (by first | exact Int32.le_refl _ | decide) c_59)
          refine lv_aload_n hx hb dX6_keep_84 rfl (lv_at hl 0 rfl) ?_
          refine g_get (TT := TX6) hc hw inX6_keep_X6 0 11 4 rfl rfl (by decide) rfl rfl dX6_keep_85 ?_
          refine lv_bipush (v := 6) hx hb dX6_keep_88 (by decide) ?_
          refine g_ild hc hw 1 6 rfl rfl (by omega) (by decide) dX6_keep_90 ?_
          refine W.eq (congrArg (fun z => F0 m 91 ls (.int z :: [])) (show ((pgF S) 6 : Int32) = nI (sK S) from rfl)) ?_
          exact g_iret hQ hc hw hr rfl rfl dX6_keep_91
        | succ k9 ih =>
          intro i h9   H locs ls hw hl
          have h9b : i < 5 := by omega
          refine lv_iload_n hx hb dX6_keep_57 rfl (lv_at hl 2 rfl) ?_
          refine lv_iconst (v := 5) hx hb dX6_keep_58 (by decide) ?_
          refine lv_icmp_ge (tgt := 84) hx hb dX6_keep_59 (by decide) (fun c_59 => absurd c_59 (nI_ge h9b (by decide))) (fun c_59 => ?_)
          refine lv_aload_n hx hb dX6_keep_62 rfl (lv_at hl 0 rfl) ?_
          refine g_get (TT := TX6) hc hw inX6_keep_X6 0 19 5 rfl rfl (by decide) rfl rfl dX6_keep_63 ?_
          refine lv_iconst (v := 5) hx hb dX6_keep_66 (by decide) ?_
          refine lv_iload_n hx hb dX6_keep_67 rfl (lv_at hl 1 rfl) ?_
          refine lv_imul hx hb dX6_keep_68 ?_
          refine lv_iload_n hx hb dX6_keep_69 rfl (lv_at hl 2 rfl) ?_
          refine lv_iadd hx hb dX6_keep_70 ?_
          refine lv_aload_n hx hb dX6_keep_71 rfl (lv_at hl 0 rfl) ?_
          refine g_get (TT := TX6) hc hw inX6_keep_X6 0 12 6 rfl rfl (by decide) rfl rfl dX6_keep_72 ?_
          refine lv_iload_n hx hb dX6_keep_75 rfl (lv_at hl 2 rfl) ?_
          refine g_fld hc hw 2 i rfl rfl (by omega) (by decide) dX6_keep_76 ?_
          refine g_fst hc hw 4 ((5 * i0) + i) rfl (n_add (n_mul rfl rfl) rfl) (by omega) (by decide) dX6_keep_77 (fun H locs hw => ?_)
          have hw : g_W D A s [(o, .inr (6, [.int 0, u1, u2, u3, u4, u5, u6, u7, u8, u9, u10, .ref pa, .ref va, u13, u14, u15, u16, u17, .ref kp, .ref kf, .ref ik, u21, u22, u23, u24, u25, u26, u27, u28, u29, u30, u31, u32, u33, u34, u35])), (pa, .inl (E 0, 29, .inl (pgF S))), (va, .inl (E 1, 5, .inr (.inr (.inl (fl5 S))))), (kp, .inl (E 0, 58, .inl (ovI kp9 (29 * i0) (pgF S) 29))), (kf, .inl (E 1, 10, .inr (.inr (.inl (vf_upd (ovF kf9 (5 * i0) (fl5 S) i) ((5 * i0) + i) ((fl5 S) i)))))), (ik, .inl (E 3, 2, .inl (upd kb i0 1)))] H locs := hw
          refine lv_iinc (v := nI (i + 1)) (lv' := [(2, .int (nI (i + 1))), (0, .ref o), (1, .int (nI i0))]) hx hb dX6_keep_78 hl (k := 2) rfl (n_inc1 rfl) (by decide) rfl (fun ls hl => ?_)
          refine lv_goto (tgt := 57) hx hb dX6_keep_81 (by decide) ?_
          have hw : g_W D A s [(o, .inr (6, [.int 0, u1, u2, u3, u4, u5, u6, u7, u8, u9, u10, .ref pa, .ref va, u13, u14, u15, u16, u17, .ref kp, .ref kf, .ref ik, u21, u22, u23, u24, u25, u26, u27, u28, u29, u30, u31, u32, u33, u34, u35])), (pa, .inl (E 0, 29, .inl (pgF S))), (va, .inl (E 1, 5, .inr (.inr (.inl (fl5 S))))), (kp, .inl (E 0, 58, .inl (ovI kp9 (29 * i0) (pgF S) 29))), (kf, .inl (E 1, 10, .inr (.inr (.inl (ovF kf9 (5 * i0) (fl5 S) (i + 1)))))), (ik, .inl (E 3, 2, .inl (upd kb i0 1)))] H locs := by
            have e4 : (vf_upd (ovF kf9 (5 * i0) (fl5 S) i) ((5 * i0) + i) ((fl5 S) i)) = (ovF kf9 (5 * i0) (fl5 S) (i + 1)) := by exact ovF_s _ _ rfl
            rw [e4] at hw
            exact hw
          exact ih (i + 1) (by omega)   _ _ _ hw (lv_sub hl [1, 2, 0] rfl)
      have hw : g_W D A s [(o, .inr (6, [.int 0, u1, u2, u3, u4, u5, u6, u7, u8, u9, u10, .ref pa, .ref va, u13, u14, u15, u16, u17, .ref kp, .ref kf, .ref ik, u21, u22, u23, u24, u25, u26, u27, u28, u29, u30, u31, u32, u33, u34, u35])), (pa, .inl (E 0, 29, .inl (pgF S))), (va, .inl (E 1, 5, .inr (.inr (.inl (fl5 S))))), (kp, .inl (E 0, 58, .inl (ovI kp9 (29 * i0) (pgF S) 29))), (kf, .inl (E 1, 10, .inr (.inr (.inl (ovF kf9 (5 * i0) (fl5 S) 0))))), (ik, .inl (E 3, 2, .inl (upd kb i0 1)))] H locs := by
        have e4 : kf9 = (ovF kf9 (5 * i0) (fl5 S) 0) := by exact ovF_0 _ _ _
        rw [e4] at hw
        exact hw
      exact J57 5 0 (by omega)   _ _ _ hw (lv_sub hl [1, 2, 0] rfl)
    | succ k9 ih =>
      intro i h9   H locs ls hw hl
      have h9b : i < 29 := by omega
      refine lv_iload_n hx hb dX6_keep_26 rfl (lv_at hl 2 rfl) ?_
      refine lv_bipush (v := 29) hx hb dX6_keep_27 (by decide) ?_
      refine lv_icmp_ge (tgt := 55) hx hb dX6_keep_29 (by decide) (fun c_29 => absurd c_29 (nI_ge h9b (by decide))) (fun c_29 => ?_)
      refine lv_aload_n hx hb dX6_keep_32 rfl (lv_at hl 0 rfl) ?_
      refine g_get (TT := TX6) hc hw inX6_keep_X6 0 18 3 rfl rfl (by decide) rfl rfl dX6_keep_33 ?_
      refine lv_bipush (v := 29) hx hb dX6_keep_36 (by decide) ?_
      refine lv_iload_n hx hb dX6_keep_38 rfl (lv_at hl 1 rfl) ?_
      refine lv_imul hx hb dX6_keep_39 ?_
      refine lv_iload_n hx hb dX6_keep_40 rfl (lv_at hl 2 rfl) ?_
      refine lv_iadd hx hb dX6_keep_41 ?_
      refine lv_aload_n hx hb dX6_keep_42 rfl (lv_at hl 0 rfl) ?_
      refine g_get (TT := TX6) hc hw inX6_keep_X6 0 11 4 rfl rfl (by decide) rfl rfl dX6_keep_43 ?_
      refine lv_iload_n hx hb dX6_keep_46 rfl (lv_at hl 2 rfl) ?_
      refine g_ild hc hw 1 i rfl rfl (by omega) (by decide) dX6_keep_47 ?_
      refine g_ist hc hw 3 ((29 * i0) + i) rfl (n_add (n_mul rfl rfl) rfl) (by omega) (by decide) dX6_keep_48 (fun H locs hw => ?_)
      have hw : g_W D A s [(o, .inr (6, [.int 0, u1, u2, u3, u4, u5, u6, u7, u8, u9, u10, .ref pa, .ref va, u13, u14, u15, u16, u17, .ref kp, .ref kf, .ref ik, u21, u22, u23, u24, u25, u26, u27, u28, u29, u30, u31, u32, u33, u34, u35])), (pa, .inl (E 0, 29, .inl (pgF S))), (va, .inl (E 1, 5, .inr (.inr (.inl (fl5 S))))), (kp, .inl (E 0, 58, .inl (upd (ovI kp9 (29 * i0) (pgF S) i) ((29 * i0) + i) ((pgF S) i)))), (kf, .inl (E 1, 10, .inr (.inr (.inl kf9)))), (ik, .inl (E 3, 2, .inl (upd kb i0 1)))] H locs := hw
      refine lv_iinc (v := nI (i + 1)) (lv' := [(2, .int (nI (i + 1))), (0, .ref o), (1, .int (nI i0))]) hx hb dX6_keep_49 hl (k := 2) rfl (n_inc1 rfl) (by decide) rfl (fun ls hl => ?_)
      refine lv_goto (tgt := 26) hx hb dX6_keep_52 (by decide) ?_
      have hw : g_W D A s [(o, .inr (6, [.int 0, u1, u2, u3, u4, u5, u6, u7, u8, u9, u10, .ref pa, .ref va, u13, u14, u15, u16, u17, .ref kp, .ref kf, .ref ik, u21, u22, u23, u24, u25, u26, u27, u28, u29, u30, u31, u32, u33, u34, u35])), (pa, .inl (E 0, 29, .inl (pgF S))), (va, .inl (E 1, 5, .inr (.inr (.inl (fl5 S))))), (kp, .inl (E 0, 58, .inl (ovI kp9 (29 * i0) (pgF S) (i + 1)))), (kf, .inl (E 1, 10, .inr (.inr (.inl kf9)))), (ik, .inl (E 3, 2, .inl (upd kb i0 1)))] H locs := by
        have e3 : (upd (ovI kp9 (29 * i0) (pgF S) i) ((29 * i0) + i) ((pgF S) i)) = (ovI kp9 (29 * i0) (pgF S) (i + 1)) := by exact ovI_s _ _ rfl
        rw [e3] at hw
        exact hw
      exact ih (i + 1) (by omega)   _ _ _ hw (lv_sub hl [1, 2, 0] rfl)
  have hw : g_W D A s [(o, .inr (6, [.int 0, u1, u2, u3, u4, u5, u6, u7, u8, u9, u10, .ref pa, .ref va, u13, u14, u15, u16, u17, .ref kp, .ref kf, .ref ik, u21, u22, u23, u24, u25, u26, u27, u28, u29, u30, u31, u32, u33, u34, u35])), (pa, .inl (E 0, 29, .inl (pgF S))), (va, .inl (E 1, 5, .inr (.inr (.inl (fl5 S))))), (kp, .inl (E 0, 58, .inl (ovI kp9 (29 * i0) (pgF S) 0))), (kf, .inl (E 1, 10, .inr (.inr (.inl kf9)))), (ik, .inl (E 3, 2, .inl (upd kb i0 1)))] H locs := by
    have e3 : kp9 = (ovI kp9 (29 * i0) (pgF S) 0) := by exact ovI_0 _ _ _
    rw [e3] at hw
    exact hw
  exact J26 29 0 (by omega)   _ _ _ hw (lv_sub hl [1, 2, 0] rfl)

theorem dX6_again_0 : decode cX6_again 0 = .ok (.aload_n 0, 1) := by decide +kernel
theorem dX6_again_1 : decode cX6_again 1 = .ok (.iconst 0, 1) := by decide +kernel
theorem dX6_again_2 : decode cX6_again 2 = .ok (.putfield 88, 3) := by decide +kernel
theorem dX6_again_5 : decode cX6_again 5 = .ok (.iload_n 1, 1) := by decide +kernel
theorem dX6_again_6 : decode cX6_again 6 = .ok (.i2l, 1) := by decide +kernel
theorem dX6_again_7 : decode cX6_again 7 = .ok (.lconst 0, 1) := by decide +kernel
theorem dX6_again_8 : decode cX6_again 8 = .ok (.lconst 1, 1) := by decide +kernel
theorem dX6_again_9 : decode cX6_again 9 = .ok (.invokestatic 94, 3) := by decide +kernel
theorem dX6_again_12 : decode cX6_again 12 = .ok (.ifCond .ne 5, 3) := by decide +kernel
theorem dX6_again_15 : decode cX6_again 15 = .ok (.iconst (-1), 1) := by decide +kernel
theorem dX6_again_16 : decode cX6_again 16 = .ok (.ireturn, 1) := by decide +kernel
set_option maxRecDepth 20000 in
theorem ggX6_again_X6_in : GoodIn wsX6_again wsX6_in := goodIn_r _ [11] rfl (by decide +kernel)
set_option maxRecDepth 20000 in
theorem gX6_again_X6_in : GoodIn wsX6_again (va_wsS RX6 94 yX6_in wsX6_in) := goodIn_app (goodIn_of _ (by decide +kernel)) ggX6_again_X6_in
theorem inX6_again_X6 : ∀ w ∈ u_ws RX6 TX6 36, w ∈ wsX6_again := fun w h => List.mem_cons_of_mem _ (List.mem_append_right _ h)
set_option maxRecDepth 100000 in
set_option maxHeartbeats 4000000 in
theorem m_X6_again_out {l : Launch} {D : va_G} {E : Nat → ClassId} {T : Nat → Nat} (o : Nat) (u0 : Value) (u1 : Value) (u2 : Value) (u3 : Value) (u4 : Value) (u5 : Value) (u6 : Value) (u7 : Value) (u8 : Value) (u9 : Value) (u10 : Value) (u11 : Value) (u12 : Value) (u13 : Value) (u14 : Value) (u15 : Value) (u16 : Value) (u17 : Value) (u18 : Value) (u19 : Value) (u20 : Value) (u21 : Value) (u22 : Value) (u23 : Value) (u24 : Value) (u25 : Value) (u26 : Value) (u27 : Value) (u28 : Value) (u29 : Value) (u30 : Value) (u31 : Value) (u32 : Value) (u33 : Value) (u34 : Value) (u35 : Value) (v : Int32) (ho : outB v 0 1 = true) : g_M l D E T yX6_again wsX6_again 1 25 [.ref o, .int v] [(o, .inr (6, [u0, u1, u2, u3, u4, u5, u6, u7, u8, u9, u10, u11, u12, u13, u14, u15, u16, u17, u18, u19, u20, u21, u22, u23, u24, u25, u26, u27, u28, u29, u30, u31, u32, u33, u34, u35]))] [(o, .inr (6, [.int 0, u1, u2, u3, u4, u5, u6, u7, u8, u9, u10, u11, u12, u13, u14, u15, u16, u17, u18, u19, u20, u21, u22, u23, u24, u25, u26, u27, u28, u29, u30, u31, u32, u33, u34, u35]))] (some (.int (-1))) := by
  refine g_M.of (cc := cX6_again) (nL := 3) (ret := (some .int)) (own := RX6) (lv := [(0, .ref o), (1, .int v)]) (by decide) rfl rfl (Nat.le_of_ble_eq_true rfl) rfl ?_
  intro p e R s m args below meth c A Q H locs ls hR hQ hc hr hw hl
  have hx := hc.1
  have hb := hc.2.1
  have hts := hc.2.2.2.1
  have hown := hc.2.2.2.2.1
  refine lv_aload_n hx hb dX6_again_0 rfl (lv_at hl 0 rfl) ?_
  refine lv_iconst (v := 0) hx hb dX6_again_1 (by decide) ?_
  refine g_put (TT := TX6) hc hw inX6_again_X6 tyX6 tyX6_ok nmX6 0 0 1 rfl rfl (by decide) rfl rfl rfl rfl (Nat.le_of_ble_eq_true rfl) dX6_again_2 (fun H locs hw => ?_)
  have hw : g_W D A s [(o, .inr (6, [.int 0, u1, u2, u3, u4, u5, u6, u7, u8, u9, u10, u11, u12, u13, u14, u15, u16, u17, u18, u19, u20, u21, u22, u23, u24, u25, u26, u27, u28, u29, u30, u31, u32, u33, u34, u35]))] H locs := hw
  refine lv_iload_n hx hb dX6_again_5 rfl (lv_at hl 1 rfl) ?_
  refine lv_i2l hx hb dX6_again_6 rfl ?_
  refine lv_lconst (v := 0) hx hb dX6_again_7 (by decide) ?_
  refine lv_lconst (v := 1) hx hb dX6_again_8 (by decide) ?_
  refine g_cS (As := [.long v.toInt64, .long 0, .long 1]) (n := 3) (rest := []) (wc := []) (w1 := []) (bytes := cX6_in) (maxL := 6) (ret := (some .boolean)) hc hw hl.1 (m_X6_in (l := l) (D := D) (E := E) (T := T) v.toInt64 0 1) gX6_again_X6_in rfl (by decide +kernel) (by rw [hR]; exact ⟨Nat.le_of_ble_eq_true rfl, Nat.le_of_ble_eq_true rfl⟩) [] (by decide) rfl [] rfl rfl rfl rfl (Nat.le_of_ble_eq_true rfl) dX6_again_9 ⟨Nat.zero_le _, Nat.zero_le _⟩ (fun H locs hw => ?_)
  have hw : g_W D A s [(o, .inr (6, [.int 0, u1, u2, u3, u4, u5, u6, u7, u8, u9, u10, u11, u12, u13, u14, u15, u16, u17, u18, u19, u20, u21, u22, u23, u24, u25, u26, u27, u28, u29, u30, u31, u32, u33, u34, u35]))] H locs := hw
  refine W.eq (congrArg (fun z => F0 m 12 ls (.int z :: [])) (show (b2i (inL v.toInt64 0 1) : Int32) = 0 from (congrArg b2i (in_o (a := 0) (b := 1) ho (by decide) (by decide))))) ?_
  refine lv_if_ne (tgt := 17) hx hb dX6_again_12 (by decide) (fun c_12 => absurd c_12 (by decide)) (fun c_12 => ?_)
  refine lv_iconst (v := (-1)) hx hb dX6_again_15 (by decide) ?_
  exact g_iret hQ hc hw hr rfl rfl dX6_again_16

theorem dX6_again_17 : decode cX6_again 17 = .ok (.aload_n 0, 1) := by decide +kernel
theorem dX6_again_18 : decode cX6_again 18 = .ok (.getfield 50, 3) := by decide +kernel
theorem dX6_again_21 : decode cX6_again 21 = .ok (.iload_n 1, 1) := by decide +kernel
theorem dX6_again_22 : decode cX6_again 22 = .ok (.baload, 1) := by decide +kernel
theorem dX6_again_23 : decode cX6_again 23 = .ok (.ifCond .ne 6, 3) := by decide +kernel
theorem dX6_again_26 : decode cX6_again 26 = .ok (.bipush (-3), 2) := by decide +kernel
theorem dX6_again_28 : decode cX6_again 28 = .ok (.ireturn, 1) := by decide +kernel
set_option maxRecDepth 100000 in
set_option maxHeartbeats 4000000 in
theorem m_X6_again_no {l : Launch} {D : va_G} {E : Nat → ClassId} {T : Nat → Nat} (o : Nat) (ik : Nat) (i0 : Nat) (u0 : Value) (u1 : Value) (u2 : Value) (u3 : Value) (u4 : Value) (u5 : Value) (u6 : Value) (u7 : Value) (u8 : Value) (u9 : Value) (u10 : Value) (u11 : Value) (u12 : Value) (u13 : Value) (u14 : Value) (u15 : Value) (u16 : Value) (u17 : Value) (u18 : Value) (u19 : Value) (u21 : Value) (u22 : Value) (u23 : Value) (u24 : Value) (u25 : Value) (u26 : Value) (u27 : Value) (u28 : Value) (u29 : Value) (u30 : Value) (u31 : Value) (u32 : Value) (u33 : Value) (u34 : Value) (u35 : Value) (kb : Nat → Int32) (hi9 : i0 ≤ 1) (hkb : kb i0 = 0) : g_M l D E T yX6_again wsX6_again 1 25 [.ref o, .int (nI i0)] [(o, .inr (6, [u0, u1, u2, u3, u4, u5, u6, u7, u8, u9, u10, u11, u12, u13, u14, u15, u16, u17, u18, u19, .ref ik, u21, u22, u23, u24, u25, u26, u27, u28, u29, u30, u31, u32, u33, u34, u35])), (ik, .inl (E 3, 2, .inl kb))] [(o, .inr (6, [.int 0, u1, u2, u3, u4, u5, u6, u7, u8, u9, u10, u11, u12, u13, u14, u15, u16, u17, u18, u19, .ref ik, u21, u22, u23, u24, u25, u26, u27, u28, u29, u30, u31, u32, u33, u34, u35])), (ik, .inl (E 3, 2, .inl kb))] (some (.int (-3))) := by
  refine g_M.of (cc := cX6_again) (nL := 3) (ret := (some .int)) (own := RX6) (lv := [(0, .ref o), (1, .int (nI i0))]) (by decide) rfl rfl (Nat.le_of_ble_eq_true rfl) rfl ?_
  intro p e R s m args below meth c A Q H locs ls hR hQ hc hr hw hl
  have hx := hc.1
  have hb := hc.2.1
  have hts := hc.2.2.2.1
  have hown := hc.2.2.2.2.1
  refine lv_aload_n hx hb dX6_again_0 rfl (lv_at hl 0 rfl) ?_
  refine lv_iconst (v := 0) hx hb dX6_again_1 (by decide) ?_
  refine g_put (TT := TX6) hc hw inX6_again_X6 tyX6 tyX6_ok nmX6 0 0 1 rfl rfl (by decide) rfl rfl rfl rfl (Nat.le_of_ble_eq_true rfl) dX6_again_2 (fun H locs hw => ?_)
  have hw : g_W D A s [(o, .inr (6, [.int 0, u1, u2, u3, u4, u5, u6, u7, u8, u9, u10, u11, u12, u13, u14, u15, u16, u17, u18, u19, .ref ik, u21, u22, u23, u24, u25, u26, u27, u28, u29, u30, u31, u32, u33, u34, u35])), (ik, .inl (E 3, 2, .inl kb))] H locs := hw
  refine lv_iload_n hx hb dX6_again_5 rfl (lv_at hl 1 rfl) ?_
  refine lv_i2l hx hb dX6_again_6 rfl ?_
  refine lv_lconst (v := 0) hx hb dX6_again_7 (by decide) ?_
  refine lv_lconst (v := 1) hx hb dX6_again_8 (by decide) ?_
  refine g_cS (As := [.long ((nI i0).toInt64), .long 0, .long 1]) (n := 3) (rest := []) (wc := []) (w1 := []) (bytes := cX6_in) (maxL := 6) (ret := (some .boolean)) hc hw hl.1 (m_X6_in (l := l) (D := D) (E := E) (T := T) ((nI i0).toInt64) 0 1) gX6_again_X6_in rfl (by decide +kernel) (by rw [hR]; exact ⟨Nat.le_of_ble_eq_true rfl, Nat.le_of_ble_eq_true rfl⟩) [] (by decide) rfl [] rfl rfl rfl rfl (Nat.le_of_ble_eq_true rfl) dX6_again_9 ⟨Nat.zero_le _, Nat.zero_le _⟩ (fun H locs hw => ?_)
  have hw : g_W D A s [(o, .inr (6, [.int 0, u1, u2, u3, u4, u5, u6, u7, u8, u9, u10, u11, u12, u13, u14, u15, u16, u17, u18, u19, .ref ik, u21, u22, u23, u24, u25, u26, u27, u28, u29, u30, u31, u32, u33, u34, u35])), (ik, .inl (E 3, 2, .inl kb))] H locs := hw
  refine W.eq (congrArg (fun z => F0 m 12 ls (.int z :: [])) (show (b2i (inL ((nI i0).toInt64) 0 1) : Int32) = 1 from (congrArg b2i (in_i (out_nf (n := i0) (a := 0) (b := 1) (by omega) hi9 (by decide)) (by decide) (by decide))))) ?_
  refine lv_if_ne (tgt := 17) hx hb dX6_again_12 (by decide) (fun c_12 => ?_) (fun c_12 => absurd c_12 (by decide))
  refine lv_aload_n hx hb dX6_again_17 rfl (lv_at hl 0 rfl) ?_
  refine g_get (TT := TX6) hc hw inX6_again_X6 0 20 2 rfl rfl (by decide) rfl rfl dX6_again_18 ?_
  refine lv_iload_n hx hb dX6_again_21 rfl (lv_at hl 1 rfl) ?_
  refine g_zld hc hw 1 i0 rfl rfl (by omega) (by decide) dX6_again_22 ?_
  refine W.eq (congrArg (fun z => F0 m 23 ls (.int z :: [])) (show (kb i0 : Int32) = 0 from hkb)) ?_
  refine lv_if_ne (tgt := 29) hx hb dX6_again_23 (by decide) (fun c_23 => absurd c_23 (by decide)) (fun c_23 => ?_)
  refine lv_bipush (v := (-3)) hx hb dX6_again_26 (by decide) ?_
  exact g_iret hQ hc hw hr rfl rfl dX6_again_28

theorem dX6_again_29 : decode cX6_again 29 = .ok (.iconst 0, 1) := by decide +kernel
theorem dX6_again_30 : decode cX6_again 30 = .ok (.istore_n 2, 1) := by decide +kernel
theorem dX6_again_31 : decode cX6_again 31 = .ok (.iload_n 2, 1) := by decide +kernel
theorem dX6_again_32 : decode cX6_again 32 = .ok (.bipush 29, 2) := by decide +kernel
theorem dX6_again_34 : decode cX6_again 34 = .ok (.if_icmp .ge 26, 3) := by decide +kernel
theorem dX6_again_37 : decode cX6_again 37 = .ok (.aload_n 0, 1) := by decide +kernel
theorem dX6_again_38 : decode cX6_again 38 = .ok (.getfield 25, 3) := by decide +kernel
theorem dX6_again_41 : decode cX6_again 41 = .ok (.iload_n 2, 1) := by decide +kernel
theorem dX6_again_42 : decode cX6_again 42 = .ok (.aload_n 0, 1) := by decide +kernel
theorem dX6_again_43 : decode cX6_again 43 = .ok (.getfield 44, 3) := by decide +kernel
theorem dX6_again_46 : decode cX6_again 46 = .ok (.bipush 29, 2) := by decide +kernel
theorem dX6_again_48 : decode cX6_again 48 = .ok (.iload_n 1, 1) := by decide +kernel
theorem dX6_again_49 : decode cX6_again 49 = .ok (.imul, 1) := by decide +kernel
theorem dX6_again_50 : decode cX6_again 50 = .ok (.iload_n 2, 1) := by decide +kernel
theorem dX6_again_51 : decode cX6_again 51 = .ok (.iadd, 1) := by decide +kernel
theorem dX6_again_52 : decode cX6_again 52 = .ok (.iaload, 1) := by decide +kernel
theorem dX6_again_53 : decode cX6_again 53 = .ok (.iastore, 1) := by decide +kernel
theorem dX6_again_54 : decode cX6_again 54 = .ok (.iinc 2 1, 3) := by decide +kernel
theorem dX6_again_57 : decode cX6_again 57 = .ok (.goto (-26), 3) := by decide +kernel
theorem dX6_again_60 : decode cX6_again 60 = .ok (.iconst 0, 1) := by decide +kernel
theorem dX6_again_61 : decode cX6_again 61 = .ok (.istore_n 2, 1) := by decide +kernel
theorem dX6_again_62 : decode cX6_again 62 = .ok (.iload_n 2, 1) := by decide +kernel
theorem dX6_again_63 : decode cX6_again 63 = .ok (.iconst 5, 1) := by decide +kernel
theorem dX6_again_64 : decode cX6_again 64 = .ok (.if_icmp .ge 25, 3) := by decide +kernel
theorem dX6_again_67 : decode cX6_again 67 = .ok (.aload_n 0, 1) := by decide +kernel
theorem dX6_again_68 : decode cX6_again 68 = .ok (.getfield 28, 3) := by decide +kernel
theorem dX6_again_71 : decode cX6_again 71 = .ok (.iload_n 2, 1) := by decide +kernel
theorem dX6_again_72 : decode cX6_again 72 = .ok (.aload_n 0, 1) := by decide +kernel
theorem dX6_again_73 : decode cX6_again 73 = .ok (.getfield 47, 3) := by decide +kernel
theorem dX6_again_76 : decode cX6_again 76 = .ok (.iconst 5, 1) := by decide +kernel
theorem dX6_again_77 : decode cX6_again 77 = .ok (.iload_n 1, 1) := by decide +kernel
theorem dX6_again_78 : decode cX6_again 78 = .ok (.imul, 1) := by decide +kernel
theorem dX6_again_79 : decode cX6_again 79 = .ok (.iload_n 2, 1) := by decide +kernel
theorem dX6_again_80 : decode cX6_again 80 = .ok (.iadd, 1) := by decide +kernel
theorem dX6_again_81 : decode cX6_again 81 = .ok (.faload, 1) := by decide +kernel
theorem dX6_again_82 : decode cX6_again 82 = .ok (.fastore, 1) := by decide +kernel
theorem dX6_again_83 : decode cX6_again 83 = .ok (.iinc 2 1, 3) := by decide +kernel
theorem dX6_again_86 : decode cX6_again 86 = .ok (.goto (-24), 3) := by decide +kernel
theorem dX6_again_89 : decode cX6_again 89 = .ok (.aload_n 0, 1) := by decide +kernel
theorem dX6_again_90 : decode cX6_again 90 = .ok (.iconst 0, 1) := by decide +kernel
theorem dX6_again_91 : decode cX6_again 91 = .ok (.putfield 136, 3) := by decide +kernel
theorem dX6_again_94 : decode cX6_again 94 = .ok (.aload_n 0, 1) := by decide +kernel
theorem dX6_again_95 : decode cX6_again 95 = .ok (.getfield 25, 3) := by decide +kernel
theorem dX6_again_98 : decode cX6_again 98 = .ok (.bipush 6, 2) := by decide +kernel
theorem dX6_again_100 : decode cX6_again 100 = .ok (.iaload, 1) := by decide +kernel
theorem dX6_again_101 : decode cX6_again 101 = .ok (.ireturn, 1) := by decide +kernel
set_option maxRecDepth 100000 in
set_option maxHeartbeats 4000000 in
theorem m_X6_again {l : Launch} {D : va_G} {E : Nat → ClassId} {T : Nat → Nat} (o : Nat) (pa : Nat) (va : Nat) (kp : Nat) (kf : Nat) (ik : Nat) (i0 : Nat) (u0 : Value) (u1 : Value) (u2 : Value) (u3 : Value) (u4 : Value) (u5 : Value) (u6 : Value) (u7 : Value) (u8 : Value) (u9 : Value) (u10 : Value) (u13 : Value) (u14 : Value) (u15 : Value) (u16 : Value) (u21 : Value) (u22 : Value) (u23 : Value) (u24 : Value) (u25 : Value) (u26 : Value) (u27 : Value) (u28 : Value) (u29 : Value) (u30 : Value) (u31 : Value) (u32 : Value) (u33 : Value) (u34 : Value) (u35 : Value) (S : TS) (kp9 : Nat → Int32) (kf9 : Nat → UInt32) (kb : Nat → Int32) (V : TS) (d9 : Value) (hi9 : i0 ≤ 1) (hkb : kb i0 = 1) (hkp : ∀ j, j < 29 → kp9 (29 * i0 + j) = pgF V j) (hkf : ∀ j, j < 5 → kf9 (5 * i0 + j) = fl5 V j) : g_M l D E T yX6_again wsX6_again 1 25 [.ref o, .int (nI i0)] [(o, .inr (6, [u0, u1, u2, u3, u4, u5, u6, u7, u8, u9, u10, .ref pa, .ref va, u13, u14, u15, u16, d9, .ref kp, .ref kf, .ref ik, u21, u22, u23, u24, u25, u26, u27, u28, u29, u30, u31, u32, u33, u34, u35])), (pa, .inl (E 0, 29, .inl (pgF S))), (va, .inl (E 1, 5, .inr (.inr (.inl (fl5 S))))), (kp, .inl (E 0, 58, .inl kp9)), (kf, .inl (E 1, 10, .inr (.inr (.inl kf9)))), (ik, .inl (E 3, 2, .inl kb))] [(o, .inr (6, [.int 0, u1, u2, u3, u4, u5, u6, u7, u8, u9, u10, .ref pa, .ref va, u13, u14, u15, u16, .int 0, .ref kp, .ref kf, .ref ik, u21, u22, u23, u24, u25, u26, u27, u28, u29, u30, u31, u32, u33, u34, u35])), (pa, .inl (E 0, 29, .inl (pgF V))), (va, .inl (E 1, 5, .inr (.inr (.inl (fl5 V))))), (kp, .inl (E 0, 58, .inl kp9)), (kf, .inl (E 1, 10, .inr (.inr (.inl kf9)))), (ik, .inl (E 3, 2, .inl kb))] (some (.int (nI (sK V)))) := by
  refine g_M.of (cc := cX6_again) (nL := 3) (ret := (some .int)) (own := RX6) (lv := [(0, .ref o), (1, .int (nI i0))]) (by decide) rfl rfl (Nat.le_of_ble_eq_true rfl) rfl ?_
  intro p e R s m args below meth c A Q H locs ls hR hQ hc hr hw hl
  have hx := hc.1
  have hb := hc.2.1
  have hts := hc.2.2.2.1
  have hown := hc.2.2.2.2.1
  refine lv_aload_n hx hb dX6_again_0 rfl (lv_at hl 0 rfl) ?_
  refine lv_iconst (v := 0) hx hb dX6_again_1 (by decide) ?_
  refine g_put (TT := TX6) hc hw inX6_again_X6 tyX6 tyX6_ok nmX6 0 0 1 rfl rfl (by decide) rfl rfl rfl rfl (Nat.le_of_ble_eq_true rfl) dX6_again_2 (fun H locs hw => ?_)
  have hw : g_W D A s [(o, .inr (6, [.int 0, u1, u2, u3, u4, u5, u6, u7, u8, u9, u10, .ref pa, .ref va, u13, u14, u15, u16, d9, .ref kp, .ref kf, .ref ik, u21, u22, u23, u24, u25, u26, u27, u28, u29, u30, u31, u32, u33, u34, u35])), (pa, .inl (E 0, 29, .inl (pgF S))), (va, .inl (E 1, 5, .inr (.inr (.inl (fl5 S))))), (kp, .inl (E 0, 58, .inl kp9)), (kf, .inl (E 1, 10, .inr (.inr (.inl kf9)))), (ik, .inl (E 3, 2, .inl kb))] H locs := hw
  refine lv_iload_n hx hb dX6_again_5 rfl (lv_at hl 1 rfl) ?_
  refine lv_i2l hx hb dX6_again_6 rfl ?_
  refine lv_lconst (v := 0) hx hb dX6_again_7 (by decide) ?_
  refine lv_lconst (v := 1) hx hb dX6_again_8 (by decide) ?_
  refine g_cS (As := [.long ((nI i0).toInt64), .long 0, .long 1]) (n := 3) (rest := []) (wc := []) (w1 := []) (bytes := cX6_in) (maxL := 6) (ret := (some .boolean)) hc hw hl.1 (m_X6_in (l := l) (D := D) (E := E) (T := T) ((nI i0).toInt64) 0 1) gX6_again_X6_in rfl (by decide +kernel) (by rw [hR]; exact ⟨Nat.le_of_ble_eq_true rfl, Nat.le_of_ble_eq_true rfl⟩) [] (by decide) rfl [] rfl rfl rfl rfl (Nat.le_of_ble_eq_true rfl) dX6_again_9 ⟨Nat.zero_le _, Nat.zero_le _⟩ (fun H locs hw => ?_)
  have hw : g_W D A s [(o, .inr (6, [.int 0, u1, u2, u3, u4, u5, u6, u7, u8, u9, u10, .ref pa, .ref va, u13, u14, u15, u16, d9, .ref kp, .ref kf, .ref ik, u21, u22, u23, u24, u25, u26, u27, u28, u29, u30, u31, u32, u33, u34, u35])), (pa, .inl (E 0, 29, .inl (pgF S))), (va, .inl (E 1, 5, .inr (.inr (.inl (fl5 S))))), (kp, .inl (E 0, 58, .inl kp9)), (kf, .inl (E 1, 10, .inr (.inr (.inl kf9)))), (ik, .inl (E 3, 2, .inl kb))] H locs := hw
  refine W.eq (congrArg (fun z => F0 m 12 ls (.int z :: [])) (show (b2i (inL ((nI i0).toInt64) 0 1) : Int32) = 1 from (congrArg b2i (in_i (out_nf (n := i0) (a := 0) (b := 1) (by omega) hi9 (by decide)) (by decide) (by decide))))) ?_
  refine lv_if_ne (tgt := 17) hx hb dX6_again_12 (by decide) (fun c_12 => ?_) (fun c_12 => absurd c_12 (by decide))
  refine lv_aload_n hx hb dX6_again_17 rfl (lv_at hl 0 rfl) ?_
  refine g_get (TT := TX6) hc hw inX6_again_X6 0 20 2 rfl rfl (by decide) rfl rfl dX6_again_18 ?_
  refine lv_iload_n hx hb dX6_again_21 rfl (lv_at hl 1 rfl) ?_
  refine g_zld hc hw 5 i0 rfl rfl (by omega) (by decide) dX6_again_22 ?_
  refine W.eq (congrArg (fun z => F0 m 23 ls (.int z :: [])) (show (kb i0 : Int32) = 1 from hkb)) ?_
  refine lv_if_ne (tgt := 29) hx hb dX6_again_23 (by decide) (fun c_23 => ?_) (fun c_23 => absurd c_23 (by decide))
  refine lv_iconst (v := 0) hx hb dX6_again_29 (by decide) ?_
  refine lv_istore_n (lv' := [(2, .int 0), (0, .ref o), (1, .int (nI i0))]) hx hb dX6_again_30 rfl hl (by decide) rfl (fun ls hl => ?_)
  have J31 : ∀ (k9 : Nat) (i : Nat), i + k9 = 29 → ∀ (H : Heap) (locs : List Loc) (ls : Array Slot), g_W D A s [(o, .inr (6, [.int 0, u1, u2, u3, u4, u5, u6, u7, u8, u9, u10, .ref pa, .ref va, u13, u14, u15, u16, d9, .ref kp, .ref kf, .ref ik, u21, u22, u23, u24, u25, u26, u27, u28, u29, u30, u31, u32, u33, u34, u35])), (pa, .inl (E 0, 29, .inl (cpI (pgF V) (pgF S) i))), (va, .inl (E 1, 5, .inr (.inr (.inl (fl5 S))))), (kp, .inl (E 0, 58, .inl kp9)), (kf, .inl (E 1, 10, .inr (.inr (.inl kf9)))), (ik, .inl (E 3, 2, .inl kb))] H locs → lv_has ls 3 [(0, .ref o), (1, .int (nI i0)), (2, .int (nI i))] → W p l e R s m args below meth c H locs 0 0 Q (F0 m 31 ls []) := by
    intro k9
    induction k9 with
    | zero =>
      intro i h9   H locs ls hw hl
      have h9 : i = 29 := h9
      subst h9
      refine lv_iload_n hx hb dX6_again_31 rfl (lv_at hl 2 rfl) ?_
      refine lv_bipush (v := 29) hx hb dX6_again_32 (by decide) ?_
      refine lv_icmp_ge (tgt := 60) hx hb dX6_again_34 (by decide) (fun c_34 => ?_) (fun c_34 => absurd (by first | exact Int32.le_refl _ | decide) c_34)
      have hw := g_reI (q0 := 1) (g := pgF V) hw rfl (cpI_n _ _ 29)
      have hw : g_W D A s [(o, .inr (6, [.int 0, u1, u2, u3, u4, u5, u6, u7, u8, u9, u10, .ref pa, .ref va, u13, u14, u15, u16, d9, .ref kp, .ref kf, .ref ik, u21, u22, u23, u24, u25, u26, u27, u28, u29, u30, u31, u32, u33, u34, u35])), (pa, .inl (E 0, 29, .inl (pgF V))), (va, .inl (E 1, 5, .inr (.inr (.inl (fl5 S))))), (kp, .inl (E 0, 58, .inl kp9)), (kf, .inl (E 1, 10, .inr (.inr (.inl kf9)))), (ik, .inl (E 3, 2, .inl kb))] H locs := hw
      refine lv_iconst (v := 0) hx hb dX6_again_60 (by decide) ?_
      refine lv_istore_n (lv' := [(2, .int 0), (0, .ref o), (1, .int (nI i0))]) hx hb dX6_again_61 rfl hl (by decide) rfl (fun ls hl => ?_)
      have J62 : ∀ (k9 : Nat) (i : Nat), i + k9 = 5 → ∀ (H : Heap) (locs : List Loc) (ls : Array Slot), g_W D A s [(o, .inr (6, [.int 0, u1, u2, u3, u4, u5, u6, u7, u8, u9, u10, .ref pa, .ref va, u13, u14, u15, u16, d9, .ref kp, .ref kf, .ref ik, u21, u22, u23, u24, u25, u26, u27, u28, u29, u30, u31, u32, u33, u34, u35])), (pa, .inl (E 0, 29, .inl (pgF V))), (va, .inl (E 1, 5, .inr (.inr (.inl (cpF (fl5 V) (fl5 S) i))))), (kp, .inl (E 0, 58, .inl kp9)), (kf, .inl (E 1, 10, .inr (.inr (.inl kf9)))), (ik, .inl (E 3, 2, .inl kb))] H locs → lv_has ls 3 [(0, .ref o), (1, .int (nI i0)), (2, .int (nI i))] → W p l e R s m args below meth c H locs 0 0 Q (F0 m 62 ls []) := by
        intro k9
        induction k9 with
        | zero =>
          intro i h9   H locs ls hw hl
          have h9 : i = 5 := h9
          subst h9
          refine lv_iload_n hx hb dX6_again_62 rfl (lv_at hl 2 rfl) ?_
          refine lv_iconst (v := 5) hx hb dX6_again_63 (by decide) ?_
          refine lv_icmp_ge (tgt := 89) hx hb dX6_again_64 (by decide) (fun c_64 => ?_) (fun c_64 => absurd (by first | exact Int32.le_refl _ | decide) c_64)
          have hw := g_reF (q0 := 2) (g := fl5 V) hw rfl (cpF_n _ _ 5)
          have hw : g_W D A s [(o, .inr (6, [.int 0, u1, u2, u3, u4, u5, u6, u7, u8, u9, u10, .ref pa, .ref va, u13, u14, u15, u16, d9, .ref kp, .ref kf, .ref ik, u21, u22, u23, u24, u25, u26, u27, u28, u29, u30, u31, u32, u33, u34, u35])), (pa, .inl (E 0, 29, .inl (pgF V))), (va, .inl (E 1, 5, .inr (.inr (.inl (fl5 V))))), (kp, .inl (E 0, 58, .inl kp9)), (kf, .inl (E 1, 10, .inr (.inr (.inl kf9)))), (ik, .inl (E 3, 2, .inl kb))] H locs := hw
          refine lv_aload_n hx hb dX6_again_89 rfl (lv_at hl 0 rfl) ?_
          refine lv_iconst (v := 0) hx hb dX6_again_90 (by decide) ?_
          refine g_put (TT := TX6) hc hw inX6_again_X6 tyX6 tyX6_ok nmX6 0 17 7 rfl rfl (by decide) rfl rfl rfl rfl (Nat.le_of_ble_eq_true rfl) dX6_again_91 (fun H locs hw => ?_)
          have hw : g_W D A s [(o, .inr (6, [.int 0, u1, u2, u3, u4, u5, u6, u7, u8, u9, u10, .ref pa, .ref va, u13, u14, u15, u16, .int 0, .ref kp, .ref kf, .ref ik, u21, u22, u23, u24, u25, u26, u27, u28, u29, u30, u31, u32, u33, u34, u35])), (pa, .inl (E 0, 29, .inl (pgF V))), (va, .inl (E 1, 5, .inr (.inr (.inl (fl5 V))))), (kp, .inl (E 0, 58, .inl kp9)), (kf, .inl (E 1, 10, .inr (.inr (.inl kf9)))), (ik, .inl (E 3, 2, .inl kb))] H locs := hw
          refine lv_aload_n hx hb dX6_again_94 rfl (lv_at hl 0 rfl) ?_
          refine g_get (TT := TX6) hc hw inX6_again_X6 0 11 3 rfl rfl (by decide) rfl rfl dX6_again_95 ?_
          refine lv_bipush (v := 6) hx hb dX6_again_98 (by decide) ?_
          refine g_ild hc hw 1 6 rfl rfl (by omega) (by decide) dX6_again_100 ?_
          refine W.eq (congrArg (fun z => F0 m 101 ls (.int z :: [])) (show ((pgF V) 6 : Int32) = nI (sK V) from rfl)) ?_
          exact g_iret hQ hc hw hr rfl rfl dX6_again_101
        | succ k9 ih =>
          intro i h9   H locs ls hw hl
          have h9b : i < 5 := by omega
          refine lv_iload_n hx hb dX6_again_62 rfl (lv_at hl 2 rfl) ?_
          refine lv_iconst (v := 5) hx hb dX6_again_63 (by decide) ?_
          refine lv_icmp_ge (tgt := 89) hx hb dX6_again_64 (by decide) (fun c_64 => absurd c_64 (nI_ge h9b (by decide))) (fun c_64 => ?_)
          refine lv_aload_n hx hb dX6_again_67 rfl (lv_at hl 0 rfl) ?_
          refine g_get (TT := TX6) hc hw inX6_again_X6 0 12 5 rfl rfl (by decide) rfl rfl dX6_again_68 ?_
          refine lv_iload_n hx hb dX6_again_71 rfl (lv_at hl 2 rfl) ?_
          refine lv_aload_n hx hb dX6_again_72 rfl (lv_at hl 0 rfl) ?_
          refine g_get (TT := TX6) hc hw inX6_again_X6 0 19 6 rfl rfl (by decide) rfl rfl dX6_again_73 ?_
          refine lv_iconst (v := 5) hx hb dX6_again_76 (by decide) ?_
          refine lv_iload_n hx hb dX6_again_77 rfl (lv_at hl 1 rfl) ?_
          refine lv_imul hx hb dX6_again_78 ?_
          refine lv_iload_n hx hb dX6_again_79 rfl (lv_at hl 2 rfl) ?_
          refine lv_iadd hx hb dX6_again_80 ?_
          refine g_fld hc hw 4 ((5 * i0) + i) rfl (n_add (n_mul rfl rfl) rfl) (by omega) (by decide) dX6_again_81 ?_
          refine g_fst hc hw 2 i rfl rfl (by omega) (by decide) dX6_again_82 (fun H locs hw => ?_)
          have hw : g_W D A s [(o, .inr (6, [.int 0, u1, u2, u3, u4, u5, u6, u7, u8, u9, u10, .ref pa, .ref va, u13, u14, u15, u16, d9, .ref kp, .ref kf, .ref ik, u21, u22, u23, u24, u25, u26, u27, u28, u29, u30, u31, u32, u33, u34, u35])), (pa, .inl (E 0, 29, .inl (pgF V))), (va, .inl (E 1, 5, .inr (.inr (.inl (vf_upd (cpF (fl5 V) (fl5 S) i) i (kf9 ((5 * i0) + i))))))), (kp, .inl (E 0, 58, .inl kp9)), (kf, .inl (E 1, 10, .inr (.inr (.inl kf9)))), (ik, .inl (E 3, 2, .inl kb))] H locs := hw
          refine lv_iinc (v := nI (i + 1)) (lv' := [(2, .int (nI (i + 1))), (0, .ref o), (1, .int (nI i0))]) hx hb dX6_again_83 hl (k := 2) rfl (n_inc1 rfl) (by decide) rfl (fun ls hl => ?_)
          refine lv_goto (tgt := 62) hx hb dX6_again_86 (by decide) ?_
          have hw : g_W D A s [(o, .inr (6, [.int 0, u1, u2, u3, u4, u5, u6, u7, u8, u9, u10, .ref pa, .ref va, u13, u14, u15, u16, d9, .ref kp, .ref kf, .ref ik, u21, u22, u23, u24, u25, u26, u27, u28, u29, u30, u31, u32, u33, u34, u35])), (pa, .inl (E 0, 29, .inl (pgF V))), (va, .inl (E 1, 5, .inr (.inr (.inl (cpF (fl5 V) (fl5 S) (i + 1)))))), (kp, .inl (E 0, 58, .inl kp9)), (kf, .inl (E 1, 10, .inr (.inr (.inl kf9)))), (ik, .inl (E 3, 2, .inl kb))] H locs := by
            have e2 : (vf_upd (cpF (fl5 V) (fl5 S) i) i (kf9 ((5 * i0) + i))) = (cpF (fl5 V) (fl5 S) (i + 1)) := by exact cpF_s _ (hkf i (by omega))
            rw [e2] at hw
            exact hw
          exact ih (i + 1) (by omega)   _ _ _ hw (lv_sub hl [1, 2, 0] rfl)
      have hw : g_W D A s [(o, .inr (6, [.int 0, u1, u2, u3, u4, u5, u6, u7, u8, u9, u10, .ref pa, .ref va, u13, u14, u15, u16, d9, .ref kp, .ref kf, .ref ik, u21, u22, u23, u24, u25, u26, u27, u28, u29, u30, u31, u32, u33, u34, u35])), (pa, .inl (E 0, 29, .inl (pgF V))), (va, .inl (E 1, 5, .inr (.inr (.inl (cpF (fl5 V) (fl5 S) 0))))), (kp, .inl (E 0, 58, .inl kp9)), (kf, .inl (E 1, 10, .inr (.inr (.inl kf9)))), (ik, .inl (E 3, 2, .inl kb))] H locs := by
        have e2 : (fl5 S) = (cpF (fl5 V) (fl5 S) 0) := by exact cpF_0 _ _
        rw [e2] at hw
        exact hw
      exact J62 5 0 (by omega)   _ _ _ hw (lv_sub hl [1, 2, 0] rfl)
    | succ k9 ih =>
      intro i h9   H locs ls hw hl
      have h9b : i < 29 := by omega
      refine lv_iload_n hx hb dX6_again_31 rfl (lv_at hl 2 rfl) ?_
      refine lv_bipush (v := 29) hx hb dX6_again_32 (by decide) ?_
      refine lv_icmp_ge (tgt := 60) hx hb dX6_again_34 (by decide) (fun c_34 => absurd c_34 (nI_ge h9b (by decide))) (fun c_34 => ?_)
      refine lv_aload_n hx hb dX6_again_37 rfl (lv_at hl 0 rfl) ?_
      refine g_get (TT := TX6) hc hw inX6_again_X6 0 11 3 rfl rfl (by decide) rfl rfl dX6_again_38 ?_
      refine lv_iload_n hx hb dX6_again_41 rfl (lv_at hl 2 rfl) ?_
      refine lv_aload_n hx hb dX6_again_42 rfl (lv_at hl 0 rfl) ?_
      refine g_get (TT := TX6) hc hw inX6_again_X6 0 18 4 rfl rfl (by decide) rfl rfl dX6_again_43 ?_
      refine lv_bipush (v := 29) hx hb dX6_again_46 (by decide) ?_
      refine lv_iload_n hx hb dX6_again_48 rfl (lv_at hl 1 rfl) ?_
      refine lv_imul hx hb dX6_again_49 ?_
      refine lv_iload_n hx hb dX6_again_50 rfl (lv_at hl 2 rfl) ?_
      refine lv_iadd hx hb dX6_again_51 ?_
      refine g_ild hc hw 3 ((29 * i0) + i) rfl (n_add (n_mul rfl rfl) rfl) (by omega) (by decide) dX6_again_52 ?_
      refine g_ist hc hw 1 i rfl rfl (by omega) (by decide) dX6_again_53 (fun H locs hw => ?_)
      have hw : g_W D A s [(o, .inr (6, [.int 0, u1, u2, u3, u4, u5, u6, u7, u8, u9, u10, .ref pa, .ref va, u13, u14, u15, u16, d9, .ref kp, .ref kf, .ref ik, u21, u22, u23, u24, u25, u26, u27, u28, u29, u30, u31, u32, u33, u34, u35])), (pa, .inl (E 0, 29, .inl (upd (cpI (pgF V) (pgF S) i) i (kp9 ((29 * i0) + i))))), (va, .inl (E 1, 5, .inr (.inr (.inl (fl5 S))))), (kp, .inl (E 0, 58, .inl kp9)), (kf, .inl (E 1, 10, .inr (.inr (.inl kf9)))), (ik, .inl (E 3, 2, .inl kb))] H locs := hw
      refine lv_iinc (v := nI (i + 1)) (lv' := [(2, .int (nI (i + 1))), (0, .ref o), (1, .int (nI i0))]) hx hb dX6_again_54 hl (k := 2) rfl (n_inc1 rfl) (by decide) rfl (fun ls hl => ?_)
      refine lv_goto (tgt := 31) hx hb dX6_again_57 (by decide) ?_
      have hw : g_W D A s [(o, .inr (6, [.int 0, u1, u2, u3, u4, u5, u6, u7, u8, u9, u10, .ref pa, .ref va, u13, u14, u15, u16, d9, .ref kp, .ref kf, .ref ik, u21, u22, u23, u24, u25, u26, u27, u28, u29, u30, u31, u32, u33, u34, u35])), (pa, .inl (E 0, 29, .inl (cpI (pgF V) (pgF S) (i + 1)))), (va, .inl (E 1, 5, .inr (.inr (.inl (fl5 S))))), (kp, .inl (E 0, 58, .inl kp9)), (kf, .inl (E 1, 10, .inr (.inr (.inl kf9)))), (ik, .inl (E 3, 2, .inl kb))] H locs := by
        have e1 : (upd (cpI (pgF V) (pgF S) i) i (kp9 ((29 * i0) + i))) = (cpI (pgF V) (pgF S) (i + 1)) := by exact cpI_s _ (hkp i (by omega))
        rw [e1] at hw
        exact hw
      exact ih (i + 1) (by omega)   _ _ _ hw (lv_sub hl [1, 2, 0] rfl)
  have hw : g_W D A s [(o, .inr (6, [.int 0, u1, u2, u3, u4, u5, u6, u7, u8, u9, u10, .ref pa, .ref va, u13, u14, u15, u16, d9, .ref kp, .ref kf, .ref ik, u21, u22, u23, u24, u25, u26, u27, u28, u29, u30, u31, u32, u33, u34, u35])), (pa, .inl (E 0, 29, .inl (cpI (pgF V) (pgF S) 0))), (va, .inl (E 1, 5, .inr (.inr (.inl (fl5 S))))), (kp, .inl (E 0, 58, .inl kp9)), (kf, .inl (E 1, 10, .inr (.inr (.inl kf9)))), (ik, .inl (E 3, 2, .inl kb))] H locs := by
    have e1 : (pgF S) = (cpI (pgF V) (pgF S) 0) := by exact cpI_0 _ _
    rw [e1] at hw
    exact hw
  exact J31 29 0 (by omega)   _ _ _ hw (lv_sub hl [1, 2, 0] rfl)

theorem dX6_count_0 : decode cX6_count 0 = .ok (.aload_n 0, 1) := by decide +kernel
theorem dX6_count_1 : decode cX6_count 1 = .ok (.iconst 0, 1) := by decide +kernel
theorem dX6_count_2 : decode cX6_count 2 = .ok (.putfield 88, 3) := by decide +kernel
theorem dX6_count_5 : decode cX6_count 5 = .ok (.iload_n 1, 1) := by decide +kernel
theorem dX6_count_6 : decode cX6_count 6 = .ok (.tableswitch 166 0 15 #[78, 83, 88, 93, 100, 107, 115, 122, 129, 136, 143, 143, 143, 143, 156, 161], 78) := by decide +kernel
theorem dX6_count_84 : decode cX6_count 84 = .ok (.aload_n 0, 1) := by decide +kernel
theorem dX6_count_85 : decode cX6_count 85 = .ok (.getfield 100, 3) := by decide +kernel
theorem dX6_count_88 : decode cX6_count 88 = .ok (.ireturn, 1) := by decide +kernel
theorem dX6_count_89 : decode cX6_count 89 = .ok (.aload_n 0, 1) := by decide +kernel
theorem dX6_count_90 : decode cX6_count 90 = .ok (.getfield 130, 3) := by decide +kernel
theorem dX6_count_93 : decode cX6_count 93 = .ok (.ireturn, 1) := by decide +kernel
theorem dX6_count_94 : decode cX6_count 94 = .ok (.aload_n 0, 1) := by decide +kernel
theorem dX6_count_95 : decode cX6_count 95 = .ok (.getfield 133, 3) := by decide +kernel
theorem dX6_count_98 : decode cX6_count 98 = .ok (.ireturn, 1) := by decide +kernel
theorem dX6_count_99 : decode cX6_count 99 = .ok (.aload_n 0, 1) := by decide +kernel
theorem dX6_count_100 : decode cX6_count 100 = .ok (.getfield 25, 3) := by decide +kernel
theorem dX6_count_103 : decode cX6_count 103 = .ok (.iconst 0, 1) := by decide +kernel
theorem dX6_count_104 : decode cX6_count 104 = .ok (.iaload, 1) := by decide +kernel
theorem dX6_count_105 : decode cX6_count 105 = .ok (.ireturn, 1) := by decide +kernel
theorem dX6_count_106 : decode cX6_count 106 = .ok (.aload_n 0, 1) := by decide +kernel
theorem dX6_count_107 : decode cX6_count 107 = .ok (.getfield 25, 3) := by decide +kernel
theorem dX6_count_110 : decode cX6_count 110 = .ok (.iconst 1, 1) := by decide +kernel
theorem dX6_count_111 : decode cX6_count 111 = .ok (.iaload, 1) := by decide +kernel
theorem dX6_count_112 : decode cX6_count 112 = .ok (.ireturn, 1) := by decide +kernel
theorem dX6_count_113 : decode cX6_count 113 = .ok (.aload_n 0, 1) := by decide +kernel
theorem dX6_count_114 : decode cX6_count 114 = .ok (.getfield 25, 3) := by decide +kernel
theorem dX6_count_117 : decode cX6_count 117 = .ok (.bipush 6, 2) := by decide +kernel
theorem dX6_count_119 : decode cX6_count 119 = .ok (.iaload, 1) := by decide +kernel
theorem dX6_count_120 : decode cX6_count 120 = .ok (.ireturn, 1) := by decide +kernel
theorem dX6_count_121 : decode cX6_count 121 = .ok (.aload_n 0, 1) := by decide +kernel
theorem dX6_count_122 : decode cX6_count 122 = .ok (.getfield 25, 3) := by decide +kernel
theorem dX6_count_125 : decode cX6_count 125 = .ok (.iconst 2, 1) := by decide +kernel
theorem dX6_count_126 : decode cX6_count 126 = .ok (.iaload, 1) := by decide +kernel
theorem dX6_count_127 : decode cX6_count 127 = .ok (.ireturn, 1) := by decide +kernel
theorem dX6_count_128 : decode cX6_count 128 = .ok (.aload_n 0, 1) := by decide +kernel
theorem dX6_count_129 : decode cX6_count 129 = .ok (.getfield 25, 3) := by decide +kernel
theorem dX6_count_132 : decode cX6_count 132 = .ok (.iconst 3, 1) := by decide +kernel
theorem dX6_count_133 : decode cX6_count 133 = .ok (.iaload, 1) := by decide +kernel
theorem dX6_count_134 : decode cX6_count 134 = .ok (.ireturn, 1) := by decide +kernel
theorem dX6_count_135 : decode cX6_count 135 = .ok (.aload_n 0, 1) := by decide +kernel
theorem dX6_count_136 : decode cX6_count 136 = .ok (.getfield 25, 3) := by decide +kernel
theorem dX6_count_139 : decode cX6_count 139 = .ok (.iconst 4, 1) := by decide +kernel
theorem dX6_count_140 : decode cX6_count 140 = .ok (.iaload, 1) := by decide +kernel
theorem dX6_count_141 : decode cX6_count 141 = .ok (.ireturn, 1) := by decide +kernel
theorem dX6_count_142 : decode cX6_count 142 = .ok (.aload_n 0, 1) := by decide +kernel
theorem dX6_count_143 : decode cX6_count 143 = .ok (.getfield 25, 3) := by decide +kernel
theorem dX6_count_146 : decode cX6_count 146 = .ok (.iconst 5, 1) := by decide +kernel
theorem dX6_count_147 : decode cX6_count 147 = .ok (.iaload, 1) := by decide +kernel
theorem dX6_count_148 : decode cX6_count 148 = .ok (.ireturn, 1) := by decide +kernel
theorem dX6_count_149 : decode cX6_count 149 = .ok (.aload_n 0, 1) := by decide +kernel
theorem dX6_count_150 : decode cX6_count 150 = .ok (.getfield 25, 3) := by decide +kernel
theorem dX6_count_153 : decode cX6_count 153 = .ok (.bipush 7, 2) := by decide +kernel
theorem dX6_count_155 : decode cX6_count 155 = .ok (.iload_n 1, 1) := by decide +kernel
theorem dX6_count_156 : decode cX6_count 156 = .ok (.iadd, 1) := by decide +kernel
theorem dX6_count_157 : decode cX6_count 157 = .ok (.bipush 10, 2) := by decide +kernel
theorem dX6_count_159 : decode cX6_count 159 = .ok (.isub, 1) := by decide +kernel
theorem dX6_count_160 : decode cX6_count 160 = .ok (.iaload, 1) := by decide +kernel
theorem dX6_count_161 : decode cX6_count 161 = .ok (.ireturn, 1) := by decide +kernel
theorem dX6_count_162 : decode cX6_count 162 = .ok (.aload_n 0, 1) := by decide +kernel
theorem dX6_count_163 : decode cX6_count 163 = .ok (.getfield 136, 3) := by decide +kernel
theorem dX6_count_166 : decode cX6_count 166 = .ok (.ireturn, 1) := by decide +kernel
theorem dX6_count_167 : decode cX6_count 167 = .ok (.aload_n 0, 1) := by decide +kernel
theorem dX6_count_168 : decode cX6_count 168 = .ok (.getfield 269, 3) := by decide +kernel
theorem dX6_count_171 : decode cX6_count 171 = .ok (.ireturn, 1) := by decide +kernel
theorem dX6_count_172 : decode cX6_count 172 = .ok (.bipush (-2), 2) := by decide +kernel
theorem dX6_count_174 : decode cX6_count 174 = .ok (.ireturn, 1) := by decide +kernel
theorem inX6_count_X6 : ∀ w ∈ u_ws RX6 TX6 36, w ∈ wsX6_count := fun w h => List.mem_cons_of_mem _ (List.mem_append_right _ h)
set_option maxRecDepth 100000 in
set_option maxHeartbeats 4000000 in
theorem m_X6_count {l : Launch} {D : va_G} {E : Nat → ClassId} {T : Nat → Nat} (o : Nat) (len : Nat) (nw : Nat) (nf : Nat) (pa : Nat) (d : Nat) (cn : Nat) (u0 : Value) (u1 : Value) (u3 : Value) (u6 : Value) (u7 : Value) (u8 : Value) (u9 : Value) (u10 : Value) (u12 : Value) (u13 : Value) (u14 : Value) (u15 : Value) (u16 : Value) (u18 : Value) (u19 : Value) (u20 : Value) (u22 : Value) (u23 : Value) (u24 : Value) (u25 : Value) (u26 : Value) (u27 : Value) (u28 : Value) (u29 : Value) (u30 : Value) (u31 : Value) (u32 : Value) (u33 : Value) (u34 : Value) (u35 : Value) (S : TS) (w : Int32)  : g_M l D E T yX6_count wsX6_count 0 0 [.ref o, .int w] [(o, .inr (6, [u0, u1, .int (nI len), u3, .int (nI nw), .int (nI nf), u6, u7, u8, u9, u10, .ref pa, u12, u13, u14, u15, u16, .int (nI d), u18, u19, u20, .int (nI cn), u22, u23, u24, u25, u26, u27, u28, u29, u30, u31, u32, u33, u34, u35])), (pa, .inl (E 0, 29, .inl (pgF S)))] [(o, .inr (6, [.int 0, u1, .int (nI len), u3, .int (nI nw), .int (nI nf), u6, u7, u8, u9, u10, .ref pa, u12, u13, u14, u15, u16, .int (nI d), u18, u19, u20, .int (nI cn), u22, u23, u24, u25, u26, u27, u28, u29, u30, u31, u32, u33, u34, u35])), (pa, .inl (E 0, 29, .inl (pgF S)))] (some (.int (cnF len nw nf d cn S w))) := by
  refine g_M.of (cc := cX6_count) (nL := 2) (ret := (some .int)) (own := RX6) (lv := [(0, .ref o), (1, .int w)]) (by decide) rfl rfl (Nat.le_of_ble_eq_true rfl) rfl ?_
  intro p e R s m args below meth c A Q H locs ls hR hQ hc hr hw hl
  have hx := hc.1
  have hb := hc.2.1
  have hts := hc.2.2.2.1
  have hown := hc.2.2.2.2.1
  refine lv_aload_n hx hb dX6_count_0 rfl (lv_at hl 0 rfl) ?_
  refine lv_iconst (v := 0) hx hb dX6_count_1 (by decide) ?_
  refine g_put (TT := TX6) hc hw inX6_count_X6 tyX6 tyX6_ok nmX6 0 0 1 rfl rfl (by decide) rfl rfl rfl rfl (Nat.le_of_ble_eq_true rfl) dX6_count_2 (fun H locs hw => ?_)
  have hw : g_W D A s [(o, .inr (6, [.int 0, u1, .int (nI len), u3, .int (nI nw), .int (nI nf), u6, u7, u8, u9, u10, .ref pa, u12, u13, u14, u15, u16, .int (nI d), u18, u19, u20, .int (nI cn), u22, u23, u24, u25, u26, u27, u28, u29, u30, u31, u32, u33, u34, u35])), (pa, .inl (E 0, 29, .inl (pgF S)))] H locs := hw
  refine lv_iload_n hx hb dX6_count_5 rfl (lv_at hl 1 rfl) ?_
  by_cases y_0 : w = 0
  · skip
    refine lv_tableIn (off := 78) (tgt := 84) hx hb dX6_count_6 (by rw [y_0]; decide) (by rw [y_0]; decide) (by rw [y_0]; rfl) (by decide) ?_
    refine lv_aload_n hx hb dX6_count_84 rfl (lv_at hl 0 rfl) ?_
    refine g_get (TT := TX6) hc hw inX6_count_X6 0 2 2 rfl rfl (by decide) rfl rfl dX6_count_85 ?_
    exact g_iret hQ hc hw hr (by exact congrArg (fun z => some (Value.int z)) (by unfold cnF; simp only [if_pos y_0])) rfl dX6_count_88
  by_cases y_1 : w = 1
  · skip
    refine lv_tableIn (off := 83) (tgt := 89) hx hb dX6_count_6 (by rw [y_1]; decide) (by rw [y_1]; decide) (by rw [y_1]; rfl) (by decide) ?_
    refine lv_aload_n hx hb dX6_count_89 rfl (lv_at hl 0 rfl) ?_
    refine g_get (TT := TX6) hc hw inX6_count_X6 0 4 3 rfl rfl (by decide) rfl rfl dX6_count_90 ?_
    exact g_iret hQ hc hw hr (by exact congrArg (fun z => some (Value.int z)) (by unfold cnF; simp only [if_neg y_0, if_pos y_1])) rfl dX6_count_93
  by_cases y_2 : w = 2
  · skip
    refine lv_tableIn (off := 88) (tgt := 94) hx hb dX6_count_6 (by rw [y_2]; decide) (by rw [y_2]; decide) (by rw [y_2]; rfl) (by decide) ?_
    refine lv_aload_n hx hb dX6_count_94 rfl (lv_at hl 0 rfl) ?_
    refine g_get (TT := TX6) hc hw inX6_count_X6 0 5 4 rfl rfl (by decide) rfl rfl dX6_count_95 ?_
    exact g_iret hQ hc hw hr (by exact congrArg (fun z => some (Value.int z)) (by unfold cnF; simp only [if_neg y_0, if_neg y_1, if_pos y_2])) rfl dX6_count_98
  by_cases y_3 : w = 3
  · skip
    refine lv_tableIn (off := 93) (tgt := 99) hx hb dX6_count_6 (by rw [y_3]; decide) (by rw [y_3]; decide) (by rw [y_3]; rfl) (by decide) ?_
    refine lv_aload_n hx hb dX6_count_99 rfl (lv_at hl 0 rfl) ?_
    refine g_get (TT := TX6) hc hw inX6_count_X6 0 11 5 rfl rfl (by decide) rfl rfl dX6_count_100 ?_
    refine lv_iconst (v := 0) hx hb dX6_count_103 (by decide) ?_
    refine g_ild hc hw 1 0 rfl rfl (by omega) (by decide) dX6_count_104 ?_
    refine W.eq (congrArg (fun z => F0 m 105 ls (.int z :: [])) (show ((pgF S) 0 : Int32) = nI (sD S) from rfl)) ?_
    exact g_iret hQ hc hw hr (by exact congrArg (fun z => some (Value.int z)) (by unfold cnF; simp only [if_neg y_0, if_neg y_1, if_neg y_2, if_pos y_3])) rfl dX6_count_105
  by_cases y_4 : w = 4
  · skip
    refine lv_tableIn (off := 100) (tgt := 106) hx hb dX6_count_6 (by rw [y_4]; decide) (by rw [y_4]; decide) (by rw [y_4]; rfl) (by decide) ?_
    refine lv_aload_n hx hb dX6_count_106 rfl (lv_at hl 0 rfl) ?_
    refine g_get (TT := TX6) hc hw inX6_count_X6 0 11 5 rfl rfl (by decide) rfl rfl dX6_count_107 ?_
    refine lv_iconst (v := 1) hx hb dX6_count_110 (by decide) ?_
    refine g_ild hc hw 1 1 rfl rfl (by omega) (by decide) dX6_count_111 ?_
    refine W.eq (congrArg (fun z => F0 m 112 ls (.int z :: [])) (show ((pgF S) 1 : Int32) = sM S from rfl)) ?_
    exact g_iret hQ hc hw hr (by exact congrArg (fun z => some (Value.int z)) (by unfold cnF; simp only [if_neg y_0, if_neg y_1, if_neg y_2, if_neg y_3, if_pos y_4])) rfl dX6_count_112
  by_cases y_5 : w = 5
  · skip
    refine lv_tableIn (off := 107) (tgt := 113) hx hb dX6_count_6 (by rw [y_5]; decide) (by rw [y_5]; decide) (by rw [y_5]; rfl) (by decide) ?_
    refine lv_aload_n hx hb dX6_count_113 rfl (lv_at hl 0 rfl) ?_
    refine g_get (TT := TX6) hc hw inX6_count_X6 0 11 5 rfl rfl (by decide) rfl rfl dX6_count_114 ?_
    refine lv_bipush (v := 6) hx hb dX6_count_117 (by decide) ?_
    refine g_ild hc hw 1 6 rfl rfl (by omega) (by decide) dX6_count_119 ?_
    refine W.eq (congrArg (fun z => F0 m 120 ls (.int z :: [])) (show ((pgF S) 6 : Int32) = nI (sK S) from rfl)) ?_
    exact g_iret hQ hc hw hr (by exact congrArg (fun z => some (Value.int z)) (by unfold cnF; simp only [if_neg y_0, if_neg y_1, if_neg y_2, if_neg y_3, if_neg y_4, if_pos y_5])) rfl dX6_count_120
  by_cases y_6 : w = 6
  · skip
    refine lv_tableIn (off := 115) (tgt := 121) hx hb dX6_count_6 (by rw [y_6]; decide) (by rw [y_6]; decide) (by rw [y_6]; rfl) (by decide) ?_
    refine lv_aload_n hx hb dX6_count_121 rfl (lv_at hl 0 rfl) ?_
    refine g_get (TT := TX6) hc hw inX6_count_X6 0 11 5 rfl rfl (by decide) rfl rfl dX6_count_122 ?_
    refine lv_iconst (v := 2) hx hb dX6_count_125 (by decide) ?_
    refine g_ild hc hw 1 2 rfl rfl (by omega) (by decide) dX6_count_126 ?_
    refine W.eq (congrArg (fun z => F0 m 127 ls (.int z :: [])) (show ((pgF S) 2 : Int32) = sI S from rfl)) ?_
    exact g_iret hQ hc hw hr (by exact congrArg (fun z => some (Value.int z)) (by unfold cnF; simp only [if_neg y_0, if_neg y_1, if_neg y_2, if_neg y_3, if_neg y_4, if_neg y_5, if_pos y_6])) rfl dX6_count_127
  by_cases y_7 : w = 7
  · skip
    refine lv_tableIn (off := 122) (tgt := 128) hx hb dX6_count_6 (by rw [y_7]; decide) (by rw [y_7]; decide) (by rw [y_7]; rfl) (by decide) ?_
    refine lv_aload_n hx hb dX6_count_128 rfl (lv_at hl 0 rfl) ?_
    refine g_get (TT := TX6) hc hw inX6_count_X6 0 11 5 rfl rfl (by decide) rfl rfl dX6_count_129 ?_
    refine lv_iconst (v := 3) hx hb dX6_count_132 (by decide) ?_
    refine g_ild hc hw 1 3 rfl rfl (by omega) (by decide) dX6_count_133 ?_
    refine W.eq (congrArg (fun z => F0 m 134 ls (.int z :: [])) (show ((pgF S) 3 : Int32) = sC S from rfl)) ?_
    exact g_iret hQ hc hw hr (by exact congrArg (fun z => some (Value.int z)) (by unfold cnF; simp only [if_neg y_0, if_neg y_1, if_neg y_2, if_neg y_3, if_neg y_4, if_neg y_5, if_neg y_6, if_pos y_7])) rfl dX6_count_134
  by_cases y_8 : w = 8
  · skip
    refine lv_tableIn (off := 129) (tgt := 135) hx hb dX6_count_6 (by rw [y_8]; decide) (by rw [y_8]; decide) (by rw [y_8]; rfl) (by decide) ?_
    refine lv_aload_n hx hb dX6_count_135 rfl (lv_at hl 0 rfl) ?_
    refine g_get (TT := TX6) hc hw inX6_count_X6 0 11 5 rfl rfl (by decide) rfl rfl dX6_count_136 ?_
    refine lv_iconst (v := 4) hx hb dX6_count_139 (by decide) ?_
    refine g_ild hc hw 1 4 rfl rfl (by omega) (by decide) dX6_count_140 ?_
    refine W.eq (congrArg (fun z => F0 m 141 ls (.int z :: [])) (show ((pgF S) 4 : Int32) = sA S from rfl)) ?_
    exact g_iret hQ hc hw hr (by exact congrArg (fun z => some (Value.int z)) (by unfold cnF; simp only [if_neg y_0, if_neg y_1, if_neg y_2, if_neg y_3, if_neg y_4, if_neg y_5, if_neg y_6, if_neg y_7, if_pos y_8])) rfl dX6_count_141
  by_cases y_9 : w = 9
  · skip
    refine lv_tableIn (off := 136) (tgt := 142) hx hb dX6_count_6 (by rw [y_9]; decide) (by rw [y_9]; decide) (by rw [y_9]; rfl) (by decide) ?_
    refine lv_aload_n hx hb dX6_count_142 rfl (lv_at hl 0 rfl) ?_
    refine g_get (TT := TX6) hc hw inX6_count_X6 0 11 5 rfl rfl (by decide) rfl rfl dX6_count_143 ?_
    refine lv_iconst (v := 5) hx hb dX6_count_146 (by decide) ?_
    refine g_ild hc hw 1 5 rfl rfl (by omega) (by decide) dX6_count_147 ?_
    refine W.eq (congrArg (fun z => F0 m 148 ls (.int z :: [])) (show ((pgF S) 5 : Int32) = sR S from rfl)) ?_
    exact g_iret hQ hc hw hr (by exact congrArg (fun z => some (Value.int z)) (by unfold cnF; simp only [if_neg y_0, if_neg y_1, if_neg y_2, if_neg y_3, if_neg y_4, if_neg y_5, if_neg y_6, if_neg y_7, if_neg y_8, if_pos y_9])) rfl dX6_count_148
  by_cases y_10 : w = 10
  · skip
    refine lv_tableIn (off := 143) (tgt := 149) hx hb dX6_count_6 (by rw [y_10]; decide) (by rw [y_10]; decide) (by rw [y_10]; rfl) (by decide) ?_
    refine lv_aload_n hx hb dX6_count_149 rfl (lv_at hl 0 rfl) ?_
    refine g_get (TT := TX6) hc hw inX6_count_X6 0 11 5 rfl rfl (by decide) rfl rfl dX6_count_150 ?_
    refine lv_bipush (v := 7) hx hb dX6_count_153 (by decide) ?_
    refine lv_iload_n hx hb dX6_count_155 rfl (lv_at hl 1 rfl) ?_
    refine lv_iadd hx hb dX6_count_156 ?_
    refine lv_bipush (v := 10) hx hb dX6_count_157 (by decide) ?_
    refine lv_isub hx hb dX6_count_159 ?_
    refine g_ild hc hw 1 7 rfl (by rw [y_10]; decide) (by decide) (by decide) dX6_count_160 ?_
    refine W.eq (congrArg (fun z => F0 m 161 ls (.int z :: [])) (show ((pgF S) 7 : Int32) = sT S 0 from rfl)) ?_
    exact g_iret hQ hc hw hr (by exact congrArg (fun z => some (Value.int z)) (by unfold cnF; simp only [if_neg y_0, if_neg y_1, if_neg y_2, if_neg y_3, if_neg y_4, if_neg y_5, if_neg y_6, if_neg y_7, if_neg y_8, if_neg y_9, if_pos y_10])) rfl dX6_count_161
  by_cases y_11 : w = 11
  · skip
    refine lv_tableIn (off := 143) (tgt := 149) hx hb dX6_count_6 (by rw [y_11]; decide) (by rw [y_11]; decide) (by rw [y_11]; rfl) (by decide) ?_
    refine lv_aload_n hx hb dX6_count_149 rfl (lv_at hl 0 rfl) ?_
    refine g_get (TT := TX6) hc hw inX6_count_X6 0 11 5 rfl rfl (by decide) rfl rfl dX6_count_150 ?_
    refine lv_bipush (v := 7) hx hb dX6_count_153 (by decide) ?_
    refine lv_iload_n hx hb dX6_count_155 rfl (lv_at hl 1 rfl) ?_
    refine lv_iadd hx hb dX6_count_156 ?_
    refine lv_bipush (v := 10) hx hb dX6_count_157 (by decide) ?_
    refine lv_isub hx hb dX6_count_159 ?_
    refine g_ild hc hw 1 8 rfl (by rw [y_11]; decide) (by decide) (by decide) dX6_count_160 ?_
    refine W.eq (congrArg (fun z => F0 m 161 ls (.int z :: [])) (show ((pgF S) 8 : Int32) = sT S 1 from rfl)) ?_
    exact g_iret hQ hc hw hr (by exact congrArg (fun z => some (Value.int z)) (by unfold cnF; simp only [if_neg y_0, if_neg y_1, if_neg y_2, if_neg y_3, if_neg y_4, if_neg y_5, if_neg y_6, if_neg y_7, if_neg y_8, if_neg y_9, if_neg y_10, if_pos y_11])) rfl dX6_count_161
  by_cases y_12 : w = 12
  · skip
    refine lv_tableIn (off := 143) (tgt := 149) hx hb dX6_count_6 (by rw [y_12]; decide) (by rw [y_12]; decide) (by rw [y_12]; rfl) (by decide) ?_
    refine lv_aload_n hx hb dX6_count_149 rfl (lv_at hl 0 rfl) ?_
    refine g_get (TT := TX6) hc hw inX6_count_X6 0 11 5 rfl rfl (by decide) rfl rfl dX6_count_150 ?_
    refine lv_bipush (v := 7) hx hb dX6_count_153 (by decide) ?_
    refine lv_iload_n hx hb dX6_count_155 rfl (lv_at hl 1 rfl) ?_
    refine lv_iadd hx hb dX6_count_156 ?_
    refine lv_bipush (v := 10) hx hb dX6_count_157 (by decide) ?_
    refine lv_isub hx hb dX6_count_159 ?_
    refine g_ild hc hw 1 9 rfl (by rw [y_12]; decide) (by decide) (by decide) dX6_count_160 ?_
    refine W.eq (congrArg (fun z => F0 m 161 ls (.int z :: [])) (show ((pgF S) 9 : Int32) = sT S 2 from rfl)) ?_
    exact g_iret hQ hc hw hr (by exact congrArg (fun z => some (Value.int z)) (by unfold cnF; simp only [if_neg y_0, if_neg y_1, if_neg y_2, if_neg y_3, if_neg y_4, if_neg y_5, if_neg y_6, if_neg y_7, if_neg y_8, if_neg y_9, if_neg y_10, if_neg y_11, if_pos y_12])) rfl dX6_count_161
  by_cases y_13 : w = 13
  · skip
    refine lv_tableIn (off := 143) (tgt := 149) hx hb dX6_count_6 (by rw [y_13]; decide) (by rw [y_13]; decide) (by rw [y_13]; rfl) (by decide) ?_
    refine lv_aload_n hx hb dX6_count_149 rfl (lv_at hl 0 rfl) ?_
    refine g_get (TT := TX6) hc hw inX6_count_X6 0 11 5 rfl rfl (by decide) rfl rfl dX6_count_150 ?_
    refine lv_bipush (v := 7) hx hb dX6_count_153 (by decide) ?_
    refine lv_iload_n hx hb dX6_count_155 rfl (lv_at hl 1 rfl) ?_
    refine lv_iadd hx hb dX6_count_156 ?_
    refine lv_bipush (v := 10) hx hb dX6_count_157 (by decide) ?_
    refine lv_isub hx hb dX6_count_159 ?_
    refine g_ild hc hw 1 10 rfl (by rw [y_13]; decide) (by decide) (by decide) dX6_count_160 ?_
    refine W.eq (congrArg (fun z => F0 m 161 ls (.int z :: [])) (show ((pgF S) 10 : Int32) = sT S 3 from rfl)) ?_
    exact g_iret hQ hc hw hr (by exact congrArg (fun z => some (Value.int z)) (by unfold cnF; simp only [if_neg y_0, if_neg y_1, if_neg y_2, if_neg y_3, if_neg y_4, if_neg y_5, if_neg y_6, if_neg y_7, if_neg y_8, if_neg y_9, if_neg y_10, if_neg y_11, if_neg y_12, if_pos y_13])) rfl dX6_count_161
  by_cases y_14 : w = 14
  · skip
    refine lv_tableIn (off := 156) (tgt := 162) hx hb dX6_count_6 (by rw [y_14]; decide) (by rw [y_14]; decide) (by rw [y_14]; rfl) (by decide) ?_
    refine lv_aload_n hx hb dX6_count_162 rfl (lv_at hl 0 rfl) ?_
    refine g_get (TT := TX6) hc hw inX6_count_X6 0 17 6 rfl rfl (by decide) rfl rfl dX6_count_163 ?_
    exact g_iret hQ hc hw hr (by exact congrArg (fun z => some (Value.int z)) (by unfold cnF; simp only [if_neg y_0, if_neg y_1, if_neg y_2, if_neg y_3, if_neg y_4, if_neg y_5, if_neg y_6, if_neg y_7, if_neg y_8, if_neg y_9, if_neg y_10, if_neg y_11, if_neg y_12, if_neg y_13, if_pos y_14])) rfl dX6_count_166
  by_cases y_15 : w = 15
  · skip
    refine lv_tableIn (off := 161) (tgt := 167) hx hb dX6_count_6 (by rw [y_15]; decide) (by rw [y_15]; decide) (by rw [y_15]; rfl) (by decide) ?_
    refine lv_aload_n hx hb dX6_count_167 rfl (lv_at hl 0 rfl) ?_
    refine g_get (TT := TX6) hc hw inX6_count_X6 0 21 7 rfl rfl (by decide) rfl rfl dX6_count_168 ?_
    exact g_iret hQ hc hw hr (by exact congrArg (fun z => some (Value.int z)) (by unfold cnF; simp only [if_neg y_0, if_neg y_1, if_neg y_2, if_neg y_3, if_neg y_4, if_neg y_5, if_neg y_6, if_neg y_7, if_neg y_8, if_neg y_9, if_neg y_10, if_neg y_11, if_neg y_12, if_neg y_13, if_neg y_14, if_pos y_15])) rfl dX6_count_171
  have z_0 := lv_neT (a := 0) y_0 (by decide)
  have z_1 := lv_neT (a := 1) y_1 (by decide)
  have z_2 := lv_neT (a := 2) y_2 (by decide)
  have z_3 := lv_neT (a := 3) y_3 (by decide)
  have z_4 := lv_neT (a := 4) y_4 (by decide)
  have z_5 := lv_neT (a := 5) y_5 (by decide)
  have z_6 := lv_neT (a := 6) y_6 (by decide)
  have z_7 := lv_neT (a := 7) y_7 (by decide)
  have z_8 := lv_neT (a := 8) y_8 (by decide)
  have z_9 := lv_neT (a := 9) y_9 (by decide)
  have z_10 := lv_neT (a := 10) y_10 (by decide)
  have z_11 := lv_neT (a := 11) y_11 (by decide)
  have z_12 := lv_neT (a := 12) y_12 (by decide)
  have z_13 := lv_neT (a := 13) y_13 (by decide)
  have z_14 := lv_neT (a := 14) y_14 (by decide)
  have z_15 := lv_neT (a := 15) y_15 (by decide)
  refine lv_tableOut (tgt := 172) hx hb dX6_count_6 (by omega) (by decide) ?_
  refine lv_bipush (v := (-2)) hx hb dX6_count_172 (by decide) ?_
  exact g_iret hQ hc hw hr (by exact congrArg (fun z => some (Value.int z)) (by unfold cnF; simp only [if_neg y_0, if_neg y_1, if_neg y_2, if_neg y_3, if_neg y_4, if_neg y_5, if_neg y_6, if_neg y_7, if_neg y_8, if_neg y_9, if_neg y_10, if_neg y_11, if_neg y_12, if_neg y_13, if_neg y_14, if_neg y_15])) rfl dX6_count_174

theorem dX6_seed_0 : decode cX6_seed 0 = .ok (.aload_n 0, 1) := by decide +kernel
theorem dX6_seed_1 : decode cX6_seed 1 = .ok (.iconst 0, 1) := by decide +kernel
theorem dX6_seed_2 : decode cX6_seed 2 = .ok (.putfield 88, 3) := by decide +kernel
theorem dX6_seed_5 : decode cX6_seed 5 = .ok (.aload_n 0, 1) := by decide +kernel
theorem dX6_seed_6 : decode cX6_seed 6 = .ok (.getfield 291, 3) := by decide +kernel
theorem dX6_seed_9 : decode cX6_seed 9 = .ok (.lstore_n 3, 1) := by decide +kernel
theorem dX6_seed_10 : decode cX6_seed 10 = .ok (.aload_n 0, 1) := by decide +kernel
theorem dX6_seed_11 : decode cX6_seed 11 = .ok (.lload_n 1, 1) := by decide +kernel
theorem dX6_seed_12 : decode cX6_seed 12 = .ok (.putfield 291, 3) := by decide +kernel
theorem dX6_seed_15 : decode cX6_seed 15 = .ok (.lload_n 3, 1) := by decide +kernel
theorem dX6_seed_16 : decode cX6_seed 16 = .ok (.lreturn, 1) := by decide +kernel
theorem inX6_seed_X6 : ∀ w ∈ u_ws RX6 TX6 36, w ∈ wsX6_seed := fun w h => List.mem_cons_of_mem _ (List.mem_append_right _ h)
set_option maxRecDepth 100000 in
set_option maxHeartbeats 4000000 in
theorem m_X6_seed {l : Launch} {D : va_G} {E : Nat → ClassId} {T : Nat → Nat} (o : Nat) (u0 : Value) (u1 : Value) (u2 : Value) (u3 : Value) (u4 : Value) (u5 : Value) (u6 : Value) (u7 : Value) (u8 : Value) (u9 : Value) (u10 : Value) (u11 : Value) (u12 : Value) (u13 : Value) (u14 : Value) (u15 : Value) (u16 : Value) (u17 : Value) (u18 : Value) (u19 : Value) (u20 : Value) (u21 : Value) (u22 : Value) (u23 : Value) (u24 : Value) (u25 : Value) (u27 : Value) (u28 : Value) (u29 : Value) (u30 : Value) (u31 : Value) (u32 : Value) (u33 : Value) (u34 : Value) (u35 : Value) (sd : Int64) (v : Int64)  : g_M l D E T yX6_seed wsX6_seed 0 0 [.ref o, .long v] [(o, .inr (6, [u0, u1, u2, u3, u4, u5, u6, u7, u8, u9, u10, u11, u12, u13, u14, u15, u16, u17, u18, u19, u20, u21, u22, u23, u24, u25, .long sd, u27, u28, u29, u30, u31, u32, u33, u34, u35]))] [(o, .inr (6, [.int 0, u1, u2, u3, u4, u5, u6, u7, u8, u9, u10, u11, u12, u13, u14, u15, u16, u17, u18, u19, u20, u21, u22, u23, u24, u25, .long v, u27, u28, u29, u30, u31, u32, u33, u34, u35]))] (some (.long sd)) := by
  refine g_M.of (cc := cX6_seed) (nL := 5) (ret := (some .long)) (own := RX6) (lv := [(0, .ref o), (1, .long v)]) (by decide) rfl rfl (Nat.le_of_ble_eq_true rfl) rfl ?_
  intro p e R s m args below meth c A Q H locs ls hR hQ hc hr hw hl
  have hx := hc.1
  have hb := hc.2.1
  have hts := hc.2.2.2.1
  have hown := hc.2.2.2.2.1
  refine lv_aload_n hx hb dX6_seed_0 rfl (lv_at hl 0 rfl) ?_
  refine lv_iconst (v := 0) hx hb dX6_seed_1 (by decide) ?_
  refine g_put (TT := TX6) hc hw inX6_seed_X6 tyX6 tyX6_ok nmX6 0 0 1 rfl rfl (by decide) rfl rfl rfl rfl (Nat.le_of_ble_eq_true rfl) dX6_seed_2 (fun H locs hw => ?_)
  have hw : g_W D A s [(o, .inr (6, [.int 0, u1, u2, u3, u4, u5, u6, u7, u8, u9, u10, u11, u12, u13, u14, u15, u16, u17, u18, u19, u20, u21, u22, u23, u24, u25, .long sd, u27, u28, u29, u30, u31, u32, u33, u34, u35]))] H locs := hw
  refine lv_aload_n hx hb dX6_seed_5 rfl (lv_at hl 0 rfl) ?_
  refine g_get (TT := TX6) hc hw inX6_seed_X6 0 26 2 rfl rfl (by decide) rfl rfl dX6_seed_6 ?_
  refine lv_lstore_n (lv' := [(3, .long sd), (0, .ref o), (1, .long v)]) hx hb dX6_seed_9 rfl hl (by decide) rfl (fun ls hl => ?_)
  refine lv_aload_n hx hb dX6_seed_10 rfl (lv_at hl 1 rfl) ?_
  refine lv_lload_n hx hb dX6_seed_11 rfl (lv_at hl 2 rfl) ?_
  refine g_put (TT := TX6) hc hw inX6_seed_X6 tyX6 tyX6_ok nmX6 0 26 2 rfl rfl (by decide) rfl rfl rfl rfl (Nat.le_of_ble_eq_true rfl) dX6_seed_12 (fun H locs hw => ?_)
  have hw : g_W D A s [(o, .inr (6, [.int 0, u1, u2, u3, u4, u5, u6, u7, u8, u9, u10, u11, u12, u13, u14, u15, u16, u17, u18, u19, u20, u21, u22, u23, u24, u25, .long v, u27, u28, u29, u30, u31, u32, u33, u34, u35]))] H locs := hw
  refine lv_lload_n hx hb dX6_seed_15 rfl (lv_at hl 0 rfl) ?_
  exact g_lret hQ hc hw hr rfl rfl dX6_seed_16

theorem dX6_unsee_0 : decode cX6_unsee 0 = .ok (.aload_n 0, 1) := by decide +kernel
theorem dX6_unsee_1 : decode cX6_unsee 1 = .ok (.iconst 0, 1) := by decide +kernel
theorem dX6_unsee_2 : decode cX6_unsee 2 = .ok (.putfield 88, 3) := by decide +kernel
theorem dX6_unsee_5 : decode cX6_unsee 5 = .ok (.aload_n 0, 1) := by decide +kernel
theorem dX6_unsee_6 : decode cX6_unsee 6 = .ok (.getfield 269, 3) := by decide +kernel
theorem dX6_unsee_9 : decode cX6_unsee 9 = .ok (.istore_n 1, 1) := by decide +kernel
theorem dX6_unsee_10 : decode cX6_unsee 10 = .ok (.aload_n 0, 1) := by decide +kernel
theorem dX6_unsee_11 : decode cX6_unsee 11 = .ok (.iconst 0, 1) := by decide +kernel
theorem dX6_unsee_12 : decode cX6_unsee 12 = .ok (.putfield 269, 3) := by decide +kernel
theorem dX6_unsee_15 : decode cX6_unsee 15 = .ok (.iload_n 1, 1) := by decide +kernel
theorem dX6_unsee_16 : decode cX6_unsee 16 = .ok (.ireturn, 1) := by decide +kernel
theorem inX6_unsee_X6 : ∀ w ∈ u_ws RX6 TX6 36, w ∈ wsX6_unsee := fun w h => List.mem_cons_of_mem _ (List.mem_append_right _ h)
set_option maxRecDepth 100000 in
set_option maxHeartbeats 4000000 in
theorem m_X6_unsee {l : Launch} {D : va_G} {E : Nat → ClassId} {T : Nat → Nat} (o : Nat) (cn : Nat) (u0 : Value) (u1 : Value) (u2 : Value) (u3 : Value) (u4 : Value) (u5 : Value) (u6 : Value) (u7 : Value) (u8 : Value) (u9 : Value) (u10 : Value) (u11 : Value) (u12 : Value) (u13 : Value) (u14 : Value) (u15 : Value) (u16 : Value) (u17 : Value) (u18 : Value) (u19 : Value) (u20 : Value) (u22 : Value) (u23 : Value) (u24 : Value) (u25 : Value) (u26 : Value) (u27 : Value) (u28 : Value) (u29 : Value) (u30 : Value) (u31 : Value) (u32 : Value) (u33 : Value) (u34 : Value) (u35 : Value)  : g_M l D E T yX6_unsee wsX6_unsee 0 0 [.ref o] [(o, .inr (6, [u0, u1, u2, u3, u4, u5, u6, u7, u8, u9, u10, u11, u12, u13, u14, u15, u16, u17, u18, u19, u20, .int (nI cn), u22, u23, u24, u25, u26, u27, u28, u29, u30, u31, u32, u33, u34, u35]))] [(o, .inr (6, [.int 0, u1, u2, u3, u4, u5, u6, u7, u8, u9, u10, u11, u12, u13, u14, u15, u16, u17, u18, u19, u20, .int 0, u22, u23, u24, u25, u26, u27, u28, u29, u30, u31, u32, u33, u34, u35]))] (some (.int (nI cn))) := by
  refine g_M.of (cc := cX6_unsee) (nL := 2) (ret := (some .int)) (own := RX6) (lv := [(0, .ref o)]) (by decide) rfl rfl (Nat.le_of_ble_eq_true rfl) rfl ?_
  intro p e R s m args below meth c A Q H locs ls hR hQ hc hr hw hl
  have hx := hc.1
  have hb := hc.2.1
  have hts := hc.2.2.2.1
  have hown := hc.2.2.2.2.1
  refine lv_aload_n hx hb dX6_unsee_0 rfl (lv_at hl 0 rfl) ?_
  refine lv_iconst (v := 0) hx hb dX6_unsee_1 (by decide) ?_
  refine g_put (TT := TX6) hc hw inX6_unsee_X6 tyX6 tyX6_ok nmX6 0 0 1 rfl rfl (by decide) rfl rfl rfl rfl (Nat.le_of_ble_eq_true rfl) dX6_unsee_2 (fun H locs hw => ?_)
  have hw : g_W D A s [(o, .inr (6, [.int 0, u1, u2, u3, u4, u5, u6, u7, u8, u9, u10, u11, u12, u13, u14, u15, u16, u17, u18, u19, u20, .int (nI cn), u22, u23, u24, u25, u26, u27, u28, u29, u30, u31, u32, u33, u34, u35]))] H locs := hw
  refine lv_aload_n hx hb dX6_unsee_5 rfl (lv_at hl 0 rfl) ?_
  refine g_get (TT := TX6) hc hw inX6_unsee_X6 0 21 2 rfl rfl (by decide) rfl rfl dX6_unsee_6 ?_
  refine lv_istore_n (lv' := [(1, .int (nI cn)), (0, .ref o)]) hx hb dX6_unsee_9 rfl hl (by decide) rfl (fun ls hl => ?_)
  refine lv_aload_n hx hb dX6_unsee_10 rfl (lv_at hl 1 rfl) ?_
  refine lv_iconst (v := 0) hx hb dX6_unsee_11 (by decide) ?_
  refine g_put (TT := TX6) hc hw inX6_unsee_X6 tyX6 tyX6_ok nmX6 0 21 2 rfl rfl (by decide) rfl rfl rfl rfl (Nat.le_of_ble_eq_true rfl) dX6_unsee_12 (fun H locs hw => ?_)
  have hw : g_W D A s [(o, .inr (6, [.int 0, u1, u2, u3, u4, u5, u6, u7, u8, u9, u10, u11, u12, u13, u14, u15, u16, u17, u18, u19, u20, .int 0, u22, u23, u24, u25, u26, u27, u28, u29, u30, u31, u32, u33, u34, u35]))] H locs := hw
  refine lv_iload_n hx hb dX6_unsee_15 rfl (lv_at hl 0 rfl) ?_
  exact g_iret hQ hc hw hr rfl rfl dX6_unsee_16

theorem dX6_see_0 : decode cX6_see 0 = .ok (.aload_n 0, 1) := by decide +kernel
theorem dX6_see_1 : decode cX6_see 1 = .ok (.iconst 0, 1) := by decide +kernel
theorem dX6_see_2 : decode cX6_see 2 = .ok (.putfield 88, 3) := by decide +kernel
theorem dX6_see_5 : decode cX6_see 5 = .ok (.iload_n 1, 1) := by decide +kernel
theorem dX6_see_6 : decode cX6_see 6 = .ok (.i2l, 1) := by decide +kernel
theorem dX6_see_7 : decode cX6_see 7 = .ok (.lconst 0, 1) := by decide +kernel
theorem dX6_see_8 : decode cX6_see 8 = .ok (.ldc2_w 103, 3) := by decide +kernel
theorem dX6_see_11 : decode cX6_see 11 = .ok (.invokestatic 94, 3) := by decide +kernel
theorem dX6_see_14 : decode cX6_see 14 = .ok (.ifCond .eq 57, 3) := by decide +kernel
theorem dX6_see_71 : decode cX6_see 71 = .ok (.bipush (-2), 2) := by decide +kernel
theorem dX6_see_73 : decode cX6_see 73 = .ok (.ireturn, 1) := by decide +kernel
set_option maxRecDepth 20000 in
theorem ggX6_see_X6_in : GoodIn wsX6_see wsX6_in := goodIn_r _ [14] rfl (by decide +kernel)
set_option maxRecDepth 20000 in
theorem gX6_see_X6_in : GoodIn wsX6_see (va_wsS RX6 94 yX6_in wsX6_in) := goodIn_app (goodIn_of _ (by decide +kernel)) ggX6_see_X6_in
theorem inX6_see_X6 : ∀ w ∈ u_ws RX6 TX6 36, w ∈ wsX6_see := fun w h => List.mem_cons_of_mem _ (List.mem_append_right _ h)
set_option maxRecDepth 100000 in
set_option maxHeartbeats 4000000 in
theorem m_X6_see_1 {l : Launch} {D : va_G} {E : Nat → ClassId} {T : Nat → Nat} (o : Nat) (u0 : Value) (u1 : Value) (u2 : Value) (u3 : Value) (u4 : Value) (u5 : Value) (u6 : Value) (u7 : Value) (u8 : Value) (u9 : Value) (u10 : Value) (u11 : Value) (u12 : Value) (u13 : Value) (u14 : Value) (u15 : Value) (u16 : Value) (u17 : Value) (u18 : Value) (u19 : Value) (u20 : Value) (u21 : Value) (u22 : Value) (u23 : Value) (u24 : Value) (u25 : Value) (u26 : Value) (u27 : Value) (u28 : Value) (u29 : Value) (u30 : Value) (u31 : Value) (u32 : Value) (u33 : Value) (u34 : Value) (u35 : Value) (n8 : Int32) (w8 : Int32) (v8 : Int32) (b8 : Int32) (ho : outB n8 0 9 = true) : g_M l D E T yX6_see wsX6_see 1 25 [.ref o, .int n8, .int w8, .int v8, .int b8] [(o, .inr (6, [u0, u1, u2, u3, u4, u5, u6, u7, u8, u9, u10, u11, u12, u13, u14, u15, u16, u17, u18, u19, u20, u21, u22, u23, u24, u25, u26, u27, u28, u29, u30, u31, u32, u33, u34, u35]))] [(o, .inr (6, [.int 0, u1, u2, u3, u4, u5, u6, u7, u8, u9, u10, u11, u12, u13, u14, u15, u16, u17, u18, u19, u20, u21, u22, u23, u24, u25, u26, u27, u28, u29, u30, u31, u32, u33, u34, u35]))] (some (.int (-2))) := by
  refine g_M.of (cc := cX6_see) (nL := 5) (ret := (some .int)) (own := RX6) (lv := [(0, .ref o), (1, .int n8), (2, .int w8), (3, .int v8), (4, .int b8)]) (by decide) rfl rfl (Nat.le_of_ble_eq_true rfl) rfl ?_
  intro p e R s m args below meth c A Q H locs ls hR hQ hc hr hw hl
  have hx := hc.1
  have hb := hc.2.1
  have hts := hc.2.2.2.1
  have hown := hc.2.2.2.2.1
  refine lv_aload_n hx hb dX6_see_0 rfl (lv_at hl 0 rfl) ?_
  refine lv_iconst (v := 0) hx hb dX6_see_1 (by decide) ?_
  refine g_put (TT := TX6) hc hw inX6_see_X6 tyX6 tyX6_ok nmX6 0 0 1 rfl rfl (by decide) rfl rfl rfl rfl (Nat.le_of_ble_eq_true rfl) dX6_see_2 (fun H locs hw => ?_)
  have hw : g_W D A s [(o, .inr (6, [.int 0, u1, u2, u3, u4, u5, u6, u7, u8, u9, u10, u11, u12, u13, u14, u15, u16, u17, u18, u19, u20, u21, u22, u23, u24, u25, u26, u27, u28, u29, u30, u31, u32, u33, u34, u35]))] H locs := hw
  refine lv_iload_n hx hb dX6_see_5 rfl (lv_at hl 1 rfl) ?_
  refine lv_i2l hx hb dX6_see_6 rfl ?_
  refine lv_lconst (v := 0) hx hb dX6_see_7 (by decide) ?_
  refine lv_ldc2 (v := 9) hx hb hown (hts _ (List.mem_of_getElem? (i := 2) rfl)) dX6_see_8 ?_
  refine g_cS (As := [.long n8.toInt64, .long 0, .long 9]) (n := 3) (rest := []) (wc := []) (w1 := []) (bytes := cX6_in) (maxL := 6) (ret := (some .boolean)) hc hw hl.1 (m_X6_in (l := l) (D := D) (E := E) (T := T) n8.toInt64 0 9) gX6_see_X6_in rfl (by decide +kernel) (by rw [hR]; exact ⟨Nat.le_of_ble_eq_true rfl, Nat.le_of_ble_eq_true rfl⟩) [] (by decide) rfl [] rfl rfl rfl rfl (Nat.le_of_ble_eq_true rfl) dX6_see_11 ⟨Nat.zero_le _, Nat.zero_le _⟩ (fun H locs hw => ?_)
  have hw : g_W D A s [(o, .inr (6, [.int 0, u1, u2, u3, u4, u5, u6, u7, u8, u9, u10, u11, u12, u13, u14, u15, u16, u17, u18, u19, u20, u21, u22, u23, u24, u25, u26, u27, u28, u29, u30, u31, u32, u33, u34, u35]))] H locs := hw
  refine W.eq (congrArg (fun z => F0 m 14 ls (.int z :: [])) (show (b2i (inL n8.toInt64 0 9) : Int32) = 0 from (congrArg b2i (in_o (a := 0) (b := 9) ho (by decide) (by decide))))) ?_
  refine lv_if_eq (tgt := 71) hx hb dX6_see_14 (by decide) (fun c_14 => ?_) (fun c_14 => absurd c_14 (by decide))
  refine lv_bipush (v := (-2)) hx hb dX6_see_71 (by decide) ?_
  exact g_iret hQ hc hw hr rfl rfl dX6_see_73

theorem dX6_see_17 : decode cX6_see 17 = .ok (.iload_n 2, 1) := by decide +kernel
theorem dX6_see_18 : decode cX6_see 18 = .ok (.i2l, 1) := by decide +kernel
theorem dX6_see_19 : decode cX6_see 19 = .ok (.lconst 0, 1) := by decide +kernel
theorem dX6_see_20 : decode cX6_see 20 = .ok (.ldc2_w 225, 3) := by decide +kernel
theorem dX6_see_23 : decode cX6_see 23 = .ok (.invokestatic 94, 3) := by decide +kernel
theorem dX6_see_26 : decode cX6_see 26 = .ok (.ifCond .eq 45, 3) := by decide +kernel
set_option maxRecDepth 100000 in
set_option maxHeartbeats 4000000 in
theorem m_X6_see_2 {l : Launch} {D : va_G} {E : Nat → ClassId} {T : Nat → Nat} (o : Nat) (u0 : Value) (u1 : Value) (u2 : Value) (u3 : Value) (u4 : Value) (u5 : Value) (u6 : Value) (u7 : Value) (u8 : Value) (u9 : Value) (u10 : Value) (u11 : Value) (u12 : Value) (u13 : Value) (u14 : Value) (u15 : Value) (u16 : Value) (u17 : Value) (u18 : Value) (u19 : Value) (u20 : Value) (u21 : Value) (u22 : Value) (u23 : Value) (u24 : Value) (u25 : Value) (u26 : Value) (u27 : Value) (u28 : Value) (u29 : Value) (u30 : Value) (u31 : Value) (u32 : Value) (u33 : Value) (u34 : Value) (u35 : Value) (n8 : Int32) (w8 : Int32) (v8 : Int32) (b8 : Int32) (h1 : outB n8 0 9 = false) (ho : outB w8 0 2 = true) : g_M l D E T yX6_see wsX6_see 1 25 [.ref o, .int n8, .int w8, .int v8, .int b8] [(o, .inr (6, [u0, u1, u2, u3, u4, u5, u6, u7, u8, u9, u10, u11, u12, u13, u14, u15, u16, u17, u18, u19, u20, u21, u22, u23, u24, u25, u26, u27, u28, u29, u30, u31, u32, u33, u34, u35]))] [(o, .inr (6, [.int 0, u1, u2, u3, u4, u5, u6, u7, u8, u9, u10, u11, u12, u13, u14, u15, u16, u17, u18, u19, u20, u21, u22, u23, u24, u25, u26, u27, u28, u29, u30, u31, u32, u33, u34, u35]))] (some (.int (-2))) := by
  refine g_M.of (cc := cX6_see) (nL := 5) (ret := (some .int)) (own := RX6) (lv := [(0, .ref o), (1, .int n8), (2, .int w8), (3, .int v8), (4, .int b8)]) (by decide) rfl rfl (Nat.le_of_ble_eq_true rfl) rfl ?_
  intro p e R s m args below meth c A Q H locs ls hR hQ hc hr hw hl
  have hx := hc.1
  have hb := hc.2.1
  have hts := hc.2.2.2.1
  have hown := hc.2.2.2.2.1
  refine lv_aload_n hx hb dX6_see_0 rfl (lv_at hl 0 rfl) ?_
  refine lv_iconst (v := 0) hx hb dX6_see_1 (by decide) ?_
  refine g_put (TT := TX6) hc hw inX6_see_X6 tyX6 tyX6_ok nmX6 0 0 1 rfl rfl (by decide) rfl rfl rfl rfl (Nat.le_of_ble_eq_true rfl) dX6_see_2 (fun H locs hw => ?_)
  have hw : g_W D A s [(o, .inr (6, [.int 0, u1, u2, u3, u4, u5, u6, u7, u8, u9, u10, u11, u12, u13, u14, u15, u16, u17, u18, u19, u20, u21, u22, u23, u24, u25, u26, u27, u28, u29, u30, u31, u32, u33, u34, u35]))] H locs := hw
  refine lv_iload_n hx hb dX6_see_5 rfl (lv_at hl 1 rfl) ?_
  refine lv_i2l hx hb dX6_see_6 rfl ?_
  refine lv_lconst (v := 0) hx hb dX6_see_7 (by decide) ?_
  refine lv_ldc2 (v := 9) hx hb hown (hts _ (List.mem_of_getElem? (i := 2) rfl)) dX6_see_8 ?_
  refine g_cS (As := [.long n8.toInt64, .long 0, .long 9]) (n := 3) (rest := []) (wc := []) (w1 := []) (bytes := cX6_in) (maxL := 6) (ret := (some .boolean)) hc hw hl.1 (m_X6_in (l := l) (D := D) (E := E) (T := T) n8.toInt64 0 9) gX6_see_X6_in rfl (by decide +kernel) (by rw [hR]; exact ⟨Nat.le_of_ble_eq_true rfl, Nat.le_of_ble_eq_true rfl⟩) [] (by decide) rfl [] rfl rfl rfl rfl (Nat.le_of_ble_eq_true rfl) dX6_see_11 ⟨Nat.zero_le _, Nat.zero_le _⟩ (fun H locs hw => ?_)
  have hw : g_W D A s [(o, .inr (6, [.int 0, u1, u2, u3, u4, u5, u6, u7, u8, u9, u10, u11, u12, u13, u14, u15, u16, u17, u18, u19, u20, u21, u22, u23, u24, u25, u26, u27, u28, u29, u30, u31, u32, u33, u34, u35]))] H locs := hw
  refine W.eq (congrArg (fun z => F0 m 14 ls (.int z :: [])) (show (b2i (inL n8.toInt64 0 9) : Int32) = 1 from (congrArg b2i (in_i (a := 0) (b := 9) h1 (by decide) (by decide))))) ?_
  refine lv_if_eq (tgt := 71) hx hb dX6_see_14 (by decide) (fun c_14 => absurd c_14 (by decide)) (fun c_14 => ?_)
  refine lv_iload_n hx hb dX6_see_17 rfl (lv_at hl 2 rfl) ?_
  refine lv_i2l hx hb dX6_see_18 rfl ?_
  refine lv_lconst (v := 0) hx hb dX6_see_19 (by decide) ?_
  refine lv_ldc2 (v := 2) hx hb hown (hts _ (List.mem_of_getElem? (i := 3) rfl)) dX6_see_20 ?_
  refine g_cS (As := [.long w8.toInt64, .long 0, .long 2]) (n := 3) (rest := []) (wc := []) (w1 := []) (bytes := cX6_in) (maxL := 6) (ret := (some .boolean)) hc hw hl.1 (m_X6_in (l := l) (D := D) (E := E) (T := T) w8.toInt64 0 2) gX6_see_X6_in rfl (by decide +kernel) (by rw [hR]; exact ⟨Nat.le_of_ble_eq_true rfl, Nat.le_of_ble_eq_true rfl⟩) [] (by decide) rfl [] rfl rfl rfl rfl (Nat.le_of_ble_eq_true rfl) dX6_see_23 ⟨Nat.zero_le _, Nat.zero_le _⟩ (fun H locs hw => ?_)
  have hw : g_W D A s [(o, .inr (6, [.int 0, u1, u2, u3, u4, u5, u6, u7, u8, u9, u10, u11, u12, u13, u14, u15, u16, u17, u18, u19, u20, u21, u22, u23, u24, u25, u26, u27, u28, u29, u30, u31, u32, u33, u34, u35]))] H locs := hw
  refine W.eq (congrArg (fun z => F0 m 26 ls (.int z :: [])) (show (b2i (inL w8.toInt64 0 2) : Int32) = 0 from (congrArg b2i (in_o (a := 0) (b := 2) ho (by decide) (by decide))))) ?_
  refine lv_if_eq (tgt := 71) hx hb dX6_see_26 (by decide) (fun c_26 => ?_) (fun c_26 => absurd c_26 (by decide))
  refine lv_bipush (v := (-2)) hx hb dX6_see_71 (by decide) ?_
  exact g_iret hQ hc hw hr rfl rfl dX6_see_73

theorem dX6_see_29 : decode cX6_see 29 = .ok (.iload_n 3, 1) := by decide +kernel
theorem dX6_see_30 : decode cX6_see 30 = .ok (.i2l, 1) := by decide +kernel
theorem dX6_see_31 : decode cX6_see 31 = .ok (.lconst 0, 1) := by decide +kernel
theorem dX6_see_32 : decode cX6_see 32 = .ok (.iload_n 2, 1) := by decide +kernel
theorem dX6_see_33 : decode cX6_see 33 = .ok (.ifCond .ne 7, 3) := by decide +kernel
theorem dX6_see_36 : decode cX6_see 36 = .ok (.lconst 1, 1) := by decide +kernel
theorem dX6_see_37 : decode cX6_see 37 = .ok (.goto 17, 3) := by decide +kernel
theorem dX6_see_40 : decode cX6_see 40 = .ok (.iload_n 2, 1) := by decide +kernel
theorem dX6_see_41 : decode cX6_see 41 = .ok (.iconst 1, 1) := by decide +kernel
theorem dX6_see_42 : decode cX6_see 42 = .ok (.if_icmp .ne 9, 3) := by decide +kernel
theorem dX6_see_45 : decode cX6_see 45 = .ok (.ldc2_w 229, 3) := by decide +kernel
theorem dX6_see_48 : decode cX6_see 48 = .ok (.goto 6, 3) := by decide +kernel
theorem dX6_see_51 : decode cX6_see 51 = .ok (.ldc2_w 92, 3) := by decide +kernel
theorem dX6_see_54 : decode cX6_see 54 = .ok (.invokestatic 94, 3) := by decide +kernel
theorem dX6_see_57 : decode cX6_see 57 = .ok (.ifCond .eq 14, 3) := by decide +kernel
theorem dX6_see_60 : decode cX6_see 60 = .ok (.iload 4, 2) := by decide +kernel
theorem dX6_see_62 : decode cX6_see 62 = .ok (.i2l, 1) := by decide +kernel
theorem dX6_see_63 : decode cX6_see 63 = .ok (.lconst 0, 1) := by decide +kernel
theorem dX6_see_64 : decode cX6_see 64 = .ok (.lconst 1, 1) := by decide +kernel
theorem dX6_see_65 : decode cX6_see 65 = .ok (.invokestatic 94, 3) := by decide +kernel
theorem dX6_see_68 : decode cX6_see 68 = .ok (.ifCond .ne 6, 3) := by decide +kernel
set_option maxRecDepth 100000 in
set_option maxHeartbeats 4000000 in
theorem m_X6_see_3 {l : Launch} {D : va_G} {E : Nat → ClassId} {T : Nat → Nat} (o : Nat) (w : Nat) (u0 : Value) (u1 : Value) (u2 : Value) (u3 : Value) (u4 : Value) (u5 : Value) (u6 : Value) (u7 : Value) (u8 : Value) (u9 : Value) (u10 : Value) (u11 : Value) (u12 : Value) (u13 : Value) (u14 : Value) (u15 : Value) (u16 : Value) (u17 : Value) (u18 : Value) (u19 : Value) (u20 : Value) (u21 : Value) (u22 : Value) (u23 : Value) (u24 : Value) (u25 : Value) (u26 : Value) (u27 : Value) (u28 : Value) (u29 : Value) (u30 : Value) (u31 : Value) (u32 : Value) (u33 : Value) (u34 : Value) (u35 : Value) (n8 : Int32) (v8 : Int32) (b8 : Int32) (h1 : outB n8 0 9 = false) (hw9 : w ≤ 2) (ho : outB v8 0 (nI (grN w)) = false → outB b8 0 1 = true) : g_M l D E T yX6_see wsX6_see 1 25 [.ref o, .int n8, .int (nI w), .int v8, .int b8] [(o, .inr (6, [u0, u1, u2, u3, u4, u5, u6, u7, u8, u9, u10, u11, u12, u13, u14, u15, u16, u17, u18, u19, u20, u21, u22, u23, u24, u25, u26, u27, u28, u29, u30, u31, u32, u33, u34, u35]))] [(o, .inr (6, [.int 0, u1, u2, u3, u4, u5, u6, u7, u8, u9, u10, u11, u12, u13, u14, u15, u16, u17, u18, u19, u20, u21, u22, u23, u24, u25, u26, u27, u28, u29, u30, u31, u32, u33, u34, u35]))] (some (.int (-2))) := by
  refine g_M.of (cc := cX6_see) (nL := 5) (ret := (some .int)) (own := RX6) (lv := [(0, .ref o), (1, .int n8), (2, .int (nI w)), (3, .int v8), (4, .int b8)]) (by decide) rfl rfl (Nat.le_of_ble_eq_true rfl) rfl ?_
  intro p e R s m args below meth c A Q H locs ls hR hQ hc hr hw hl
  have hx := hc.1
  have hb := hc.2.1
  have hts := hc.2.2.2.1
  have hown := hc.2.2.2.2.1
  refine lv_aload_n hx hb dX6_see_0 rfl (lv_at hl 0 rfl) ?_
  refine lv_iconst (v := 0) hx hb dX6_see_1 (by decide) ?_
  refine g_put (TT := TX6) hc hw inX6_see_X6 tyX6 tyX6_ok nmX6 0 0 1 rfl rfl (by decide) rfl rfl rfl rfl (Nat.le_of_ble_eq_true rfl) dX6_see_2 (fun H locs hw => ?_)
  have hw : g_W D A s [(o, .inr (6, [.int 0, u1, u2, u3, u4, u5, u6, u7, u8, u9, u10, u11, u12, u13, u14, u15, u16, u17, u18, u19, u20, u21, u22, u23, u24, u25, u26, u27, u28, u29, u30, u31, u32, u33, u34, u35]))] H locs := hw
  refine lv_iload_n hx hb dX6_see_5 rfl (lv_at hl 1 rfl) ?_
  refine lv_i2l hx hb dX6_see_6 rfl ?_
  refine lv_lconst (v := 0) hx hb dX6_see_7 (by decide) ?_
  refine lv_ldc2 (v := 9) hx hb hown (hts _ (List.mem_of_getElem? (i := 2) rfl)) dX6_see_8 ?_
  refine g_cS (As := [.long n8.toInt64, .long 0, .long 9]) (n := 3) (rest := []) (wc := []) (w1 := []) (bytes := cX6_in) (maxL := 6) (ret := (some .boolean)) hc hw hl.1 (m_X6_in (l := l) (D := D) (E := E) (T := T) n8.toInt64 0 9) gX6_see_X6_in rfl (by decide +kernel) (by rw [hR]; exact ⟨Nat.le_of_ble_eq_true rfl, Nat.le_of_ble_eq_true rfl⟩) [] (by decide) rfl [] rfl rfl rfl rfl (Nat.le_of_ble_eq_true rfl) dX6_see_11 ⟨Nat.zero_le _, Nat.zero_le _⟩ (fun H locs hw => ?_)
  have hw : g_W D A s [(o, .inr (6, [.int 0, u1, u2, u3, u4, u5, u6, u7, u8, u9, u10, u11, u12, u13, u14, u15, u16, u17, u18, u19, u20, u21, u22, u23, u24, u25, u26, u27, u28, u29, u30, u31, u32, u33, u34, u35]))] H locs := hw
  refine W.eq (congrArg (fun z => F0 m 14 ls (.int z :: [])) (show (b2i (inL n8.toInt64 0 9) : Int32) = 1 from (congrArg b2i (in_i (a := 0) (b := 9) h1 (by decide) (by decide))))) ?_
  refine lv_if_eq (tgt := 71) hx hb dX6_see_14 (by decide) (fun c_14 => absurd c_14 (by decide)) (fun c_14 => ?_)
  refine lv_iload_n hx hb dX6_see_17 rfl (lv_at hl 2 rfl) ?_
  refine lv_i2l hx hb dX6_see_18 rfl ?_
  refine lv_lconst (v := 0) hx hb dX6_see_19 (by decide) ?_
  refine lv_ldc2 (v := 2) hx hb hown (hts _ (List.mem_of_getElem? (i := 3) rfl)) dX6_see_20 ?_
  refine g_cS (As := [.long ((nI w).toInt64), .long 0, .long 2]) (n := 3) (rest := []) (wc := []) (w1 := []) (bytes := cX6_in) (maxL := 6) (ret := (some .boolean)) hc hw hl.1 (m_X6_in (l := l) (D := D) (E := E) (T := T) ((nI w).toInt64) 0 2) gX6_see_X6_in rfl (by decide +kernel) (by rw [hR]; exact ⟨Nat.le_of_ble_eq_true rfl, Nat.le_of_ble_eq_true rfl⟩) [] (by decide) rfl [] rfl rfl rfl rfl (Nat.le_of_ble_eq_true rfl) dX6_see_23 ⟨Nat.zero_le _, Nat.zero_le _⟩ (fun H locs hw => ?_)
  have hw : g_W D A s [(o, .inr (6, [.int 0, u1, u2, u3, u4, u5, u6, u7, u8, u9, u10, u11, u12, u13, u14, u15, u16, u17, u18, u19, u20, u21, u22, u23, u24, u25, u26, u27, u28, u29, u30, u31, u32, u33, u34, u35]))] H locs := hw
  refine W.eq (congrArg (fun z => F0 m 26 ls (.int z :: [])) (show (b2i (inL ((nI w).toInt64) 0 2) : Int32) = 1 from (congrArg b2i (in_i (out_nf (n := w) (a := 0) (b := 2) (by omega) hw9 (by decide)) (by decide) (by decide))))) ?_
  refine lv_if_eq (tgt := 71) hx hb dX6_see_26 (by decide) (fun c_26 => absurd c_26 (by decide)) (fun c_26 => ?_)
  refine lv_iload_n hx hb dX6_see_29 rfl (lv_at hl 3 rfl) ?_
  refine lv_i2l hx hb dX6_see_30 rfl ?_
  refine lv_lconst (v := 0) hx hb dX6_see_31 (by decide) ?_
  refine lv_iload_n hx hb dX6_see_32 rfl (lv_at hl 2 rfl) ?_
  refine lv_if_ne (tgt := 40) hx hb dX6_see_33 (by decide) (fun c_33 => ?_) (fun c_33 => ?_)
  · skip
    have n_33 : ¬ w = 0 := nf_neT rfl rfl (by omega) (by omega) c_33
    refine lv_iload_n hx hb dX6_see_40 rfl (lv_at hl 2 rfl) ?_
    refine lv_iconst (v := 1) hx hb dX6_see_41 (by decide) ?_
    refine lv_icmp_ne (tgt := 51) hx hb dX6_see_42 (by decide) (fun c_42 => ?_) (fun c_42 => ?_)
    · skip
      have n_42 : ¬ w = 1 := nf_neT rfl rfl (by omega) (by omega) c_42
      refine lv_ldc2 (v := 3) hx hb hown (hts _ (List.mem_of_getElem? (i := 5) rfl)) dX6_see_51 ?_
      refine g_cS (As := [.long v8.toInt64, .long 0, .long 3]) (n := 3) (rest := []) (wc := []) (w1 := []) (bytes := cX6_in) (maxL := 6) (ret := (some .boolean)) hc hw hl.1 (m_X6_in (l := l) (D := D) (E := E) (T := T) v8.toInt64 0 3) gX6_see_X6_in rfl (by decide +kernel) (by rw [hR]; exact ⟨Nat.le_of_ble_eq_true rfl, Nat.le_of_ble_eq_true rfl⟩) [] (by decide) rfl [] rfl rfl rfl rfl (Nat.le_of_ble_eq_true rfl) dX6_see_54 ⟨Nat.zero_le _, Nat.zero_le _⟩ (fun H locs hw => ?_)
      have hw : g_W D A s [(o, .inr (6, [.int 0, u1, u2, u3, u4, u5, u6, u7, u8, u9, u10, u11, u12, u13, u14, u15, u16, u17, u18, u19, u20, u21, u22, u23, u24, u25, u26, u27, u28, u29, u30, u31, u32, u33, u34, u35]))] H locs := hw
      refine W.eq (congrArg (fun z => F0 m 57 ls (.int z :: [])) (show (b2i (inL v8.toInt64 0 3) : Int32) = b2i (!outB v8 0 (nI (grN w))) from (congrArg b2i (in_e _ (a := 0) (b := nI (grN w)) (by decide) (by rw [show w = 2 by omega]; rfl))))) ?_
      refine lv_if_eq (tgt := 71) hx hb dX6_see_57 (by decide) (fun c_57 => ?_) (fun c_57 => ?_)
      · skip
        have k_57 := b2i_eq c_57
        refine lv_bipush (v := (-2)) hx hb dX6_see_71 (by decide) ?_
        exact g_iret hQ hc hw hr rfl rfl dX6_see_73
      · skip
        have k_57 := b2i_ne c_57
        refine lv_iload hx hb dX6_see_60 (lv_at hl 4 rfl) ?_
        refine lv_i2l hx hb dX6_see_62 rfl ?_
        refine lv_lconst (v := 0) hx hb dX6_see_63 (by decide) ?_
        refine lv_lconst (v := 1) hx hb dX6_see_64 (by decide) ?_
        refine g_cS (As := [.long b8.toInt64, .long 0, .long 1]) (n := 3) (rest := []) (wc := []) (w1 := []) (bytes := cX6_in) (maxL := 6) (ret := (some .boolean)) hc hw hl.1 (m_X6_in (l := l) (D := D) (E := E) (T := T) b8.toInt64 0 1) gX6_see_X6_in rfl (by decide +kernel) (by rw [hR]; exact ⟨Nat.le_of_ble_eq_true rfl, Nat.le_of_ble_eq_true rfl⟩) [] (by decide) rfl [] rfl rfl rfl rfl (Nat.le_of_ble_eq_true rfl) dX6_see_65 ⟨Nat.zero_le _, Nat.zero_le _⟩ (fun H locs hw => ?_)
        have hw : g_W D A s [(o, .inr (6, [.int 0, u1, u2, u3, u4, u5, u6, u7, u8, u9, u10, u11, u12, u13, u14, u15, u16, u17, u18, u19, u20, u21, u22, u23, u24, u25, u26, u27, u28, u29, u30, u31, u32, u33, u34, u35]))] H locs := hw
        refine W.eq (congrArg (fun z => F0 m 68 ls (.int z :: [])) (show (b2i (inL b8.toInt64 0 1) : Int32) = 0 from (congrArg b2i (in_o (a := 0) (b := 1) (ho (by simpa using k_57)) (by decide) (by decide))))) ?_
        refine lv_if_ne (tgt := 74) hx hb dX6_see_68 (by decide) (fun c_68 => absurd c_68 (by decide)) (fun c_68 => ?_)
        refine lv_bipush (v := (-2)) hx hb dX6_see_71 (by decide) ?_
        exact g_iret hQ hc hw hr rfl rfl dX6_see_73
    · skip
      have n_42 : w = 1 := nf_neF rfl rfl (by omega) (by omega) c_42
      refine lv_ldc2 (v := 99) hx hb hown (hts _ (List.mem_of_getElem? (i := 4) rfl)) dX6_see_45 ?_
      refine lv_goto (tgt := 54) hx hb dX6_see_48 (by decide) ?_
      refine g_cS (As := [.long v8.toInt64, .long 0, .long 99]) (n := 3) (rest := []) (wc := []) (w1 := []) (bytes := cX6_in) (maxL := 6) (ret := (some .boolean)) hc hw hl.1 (m_X6_in (l := l) (D := D) (E := E) (T := T) v8.toInt64 0 99) gX6_see_X6_in rfl (by decide +kernel) (by rw [hR]; exact ⟨Nat.le_of_ble_eq_true rfl, Nat.le_of_ble_eq_true rfl⟩) [] (by decide) rfl [] rfl rfl rfl rfl (Nat.le_of_ble_eq_true rfl) dX6_see_54 ⟨Nat.zero_le _, Nat.zero_le _⟩ (fun H locs hw => ?_)
      have hw : g_W D A s [(o, .inr (6, [.int 0, u1, u2, u3, u4, u5, u6, u7, u8, u9, u10, u11, u12, u13, u14, u15, u16, u17, u18, u19, u20, u21, u22, u23, u24, u25, u26, u27, u28, u29, u30, u31, u32, u33, u34, u35]))] H locs := hw
      refine W.eq (congrArg (fun z => F0 m 57 ls (.int z :: [])) (show (b2i (inL v8.toInt64 0 99) : Int32) = b2i (!outB v8 0 (nI (grN w))) from (congrArg b2i (in_e _ (a := 0) (b := nI (grN w)) (by decide) (by rw [n_42]; rfl))))) ?_
      refine lv_if_eq (tgt := 71) hx hb dX6_see_57 (by decide) (fun c_57 => ?_) (fun c_57 => ?_)
      · skip
        have k_57 := b2i_eq c_57
        refine lv_bipush (v := (-2)) hx hb dX6_see_71 (by decide) ?_
        exact g_iret hQ hc hw hr rfl rfl dX6_see_73
      · skip
        have k_57 := b2i_ne c_57
        refine lv_iload hx hb dX6_see_60 (lv_at hl 4 rfl) ?_
        refine lv_i2l hx hb dX6_see_62 rfl ?_
        refine lv_lconst (v := 0) hx hb dX6_see_63 (by decide) ?_
        refine lv_lconst (v := 1) hx hb dX6_see_64 (by decide) ?_
        refine g_cS (As := [.long b8.toInt64, .long 0, .long 1]) (n := 3) (rest := []) (wc := []) (w1 := []) (bytes := cX6_in) (maxL := 6) (ret := (some .boolean)) hc hw hl.1 (m_X6_in (l := l) (D := D) (E := E) (T := T) b8.toInt64 0 1) gX6_see_X6_in rfl (by decide +kernel) (by rw [hR]; exact ⟨Nat.le_of_ble_eq_true rfl, Nat.le_of_ble_eq_true rfl⟩) [] (by decide) rfl [] rfl rfl rfl rfl (Nat.le_of_ble_eq_true rfl) dX6_see_65 ⟨Nat.zero_le _, Nat.zero_le _⟩ (fun H locs hw => ?_)
        have hw : g_W D A s [(o, .inr (6, [.int 0, u1, u2, u3, u4, u5, u6, u7, u8, u9, u10, u11, u12, u13, u14, u15, u16, u17, u18, u19, u20, u21, u22, u23, u24, u25, u26, u27, u28, u29, u30, u31, u32, u33, u34, u35]))] H locs := hw
        refine W.eq (congrArg (fun z => F0 m 68 ls (.int z :: [])) (show (b2i (inL b8.toInt64 0 1) : Int32) = 0 from (congrArg b2i (in_o (a := 0) (b := 1) (ho (by simpa using k_57)) (by decide) (by decide))))) ?_
        refine lv_if_ne (tgt := 74) hx hb dX6_see_68 (by decide) (fun c_68 => absurd c_68 (by decide)) (fun c_68 => ?_)
        refine lv_bipush (v := (-2)) hx hb dX6_see_71 (by decide) ?_
        exact g_iret hQ hc hw hr rfl rfl dX6_see_73
  · skip
    have n_33 : w = 0 := nf_neF rfl rfl (by omega) (by omega) c_33
    refine lv_lconst (v := 1) hx hb dX6_see_36 (by decide) ?_
    refine lv_goto (tgt := 54) hx hb dX6_see_37 (by decide) ?_
    refine g_cS (As := [.long v8.toInt64, .long 0, .long 1]) (n := 3) (rest := []) (wc := []) (w1 := []) (bytes := cX6_in) (maxL := 6) (ret := (some .boolean)) hc hw hl.1 (m_X6_in (l := l) (D := D) (E := E) (T := T) v8.toInt64 0 1) gX6_see_X6_in rfl (by decide +kernel) (by rw [hR]; exact ⟨Nat.le_of_ble_eq_true rfl, Nat.le_of_ble_eq_true rfl⟩) [] (by decide) rfl [] rfl rfl rfl rfl (Nat.le_of_ble_eq_true rfl) dX6_see_54 ⟨Nat.zero_le _, Nat.zero_le _⟩ (fun H locs hw => ?_)
    have hw : g_W D A s [(o, .inr (6, [.int 0, u1, u2, u3, u4, u5, u6, u7, u8, u9, u10, u11, u12, u13, u14, u15, u16, u17, u18, u19, u20, u21, u22, u23, u24, u25, u26, u27, u28, u29, u30, u31, u32, u33, u34, u35]))] H locs := hw
    refine W.eq (congrArg (fun z => F0 m 57 ls (.int z :: [])) (show (b2i (inL v8.toInt64 0 1) : Int32) = b2i (!outB v8 0 (nI (grN w))) from (congrArg b2i (in_e _ (a := 0) (b := nI (grN w)) (by decide) (by rw [n_33]; rfl))))) ?_
    refine lv_if_eq (tgt := 71) hx hb dX6_see_57 (by decide) (fun c_57 => ?_) (fun c_57 => ?_)
    · skip
      have k_57 := b2i_eq c_57
      refine lv_bipush (v := (-2)) hx hb dX6_see_71 (by decide) ?_
      exact g_iret hQ hc hw hr rfl rfl dX6_see_73
    · skip
      have k_57 := b2i_ne c_57
      refine lv_iload hx hb dX6_see_60 (lv_at hl 4 rfl) ?_
      refine lv_i2l hx hb dX6_see_62 rfl ?_
      refine lv_lconst (v := 0) hx hb dX6_see_63 (by decide) ?_
      refine lv_lconst (v := 1) hx hb dX6_see_64 (by decide) ?_
      refine g_cS (As := [.long b8.toInt64, .long 0, .long 1]) (n := 3) (rest := []) (wc := []) (w1 := []) (bytes := cX6_in) (maxL := 6) (ret := (some .boolean)) hc hw hl.1 (m_X6_in (l := l) (D := D) (E := E) (T := T) b8.toInt64 0 1) gX6_see_X6_in rfl (by decide +kernel) (by rw [hR]; exact ⟨Nat.le_of_ble_eq_true rfl, Nat.le_of_ble_eq_true rfl⟩) [] (by decide) rfl [] rfl rfl rfl rfl (Nat.le_of_ble_eq_true rfl) dX6_see_65 ⟨Nat.zero_le _, Nat.zero_le _⟩ (fun H locs hw => ?_)
      have hw : g_W D A s [(o, .inr (6, [.int 0, u1, u2, u3, u4, u5, u6, u7, u8, u9, u10, u11, u12, u13, u14, u15, u16, u17, u18, u19, u20, u21, u22, u23, u24, u25, u26, u27, u28, u29, u30, u31, u32, u33, u34, u35]))] H locs := hw
      refine W.eq (congrArg (fun z => F0 m 68 ls (.int z :: [])) (show (b2i (inL b8.toInt64 0 1) : Int32) = 0 from (congrArg b2i (in_o (a := 0) (b := 1) (ho (by simpa using k_57)) (by decide) (by decide))))) ?_
      refine lv_if_ne (tgt := 74) hx hb dX6_see_68 (by decide) (fun c_68 => absurd c_68 (by decide)) (fun c_68 => ?_)
      refine lv_bipush (v := (-2)) hx hb dX6_see_71 (by decide) ?_
      exact g_iret hQ hc hw hr rfl rfl dX6_see_73

theorem dX6_see_74 : decode cX6_see 74 = .ok (.aload_n 0, 1) := by decide +kernel
theorem dX6_see_75 : decode cX6_see 75 = .ok (.getfield 269, 3) := by decide +kernel
theorem dX6_see_78 : decode cX6_see 78 = .ok (.bipush 6, 2) := by decide +kernel
theorem dX6_see_80 : decode cX6_see 80 = .ok (.if_icmp .ne 6, 3) := by decide +kernel
theorem dX6_see_83 : decode cX6_see 83 = .ok (.bipush (-4), 2) := by decide +kernel
theorem dX6_see_85 : decode cX6_see 85 = .ok (.ireturn, 1) := by decide +kernel
set_option maxRecDepth 100000 in
set_option maxHeartbeats 4000000 in
theorem m_X6_see_full {l : Launch} {D : va_G} {E : Nat → ClassId} {T : Nat → Nat} (o : Nat) (n : Nat) (w : Nat) (v : Nat) (b8 : Nat) (cn : Nat) (u0 : Value) (u1 : Value) (u2 : Value) (u3 : Value) (u4 : Value) (u5 : Value) (u6 : Value) (u7 : Value) (u8 : Value) (u9 : Value) (u10 : Value) (u11 : Value) (u12 : Value) (u13 : Value) (u14 : Value) (u15 : Value) (u16 : Value) (u17 : Value) (u18 : Value) (u19 : Value) (u20 : Value) (u22 : Value) (u23 : Value) (u24 : Value) (u25 : Value) (u26 : Value) (u27 : Value) (u28 : Value) (u29 : Value) (u30 : Value) (u31 : Value) (u32 : Value) (u33 : Value) (u34 : Value) (u35 : Value) (hn : n ≤ 9) (hw9 : w ≤ 2) (hv9 : v ≤ grN w) (hg9 : grN w ≤ 99) (hb9 : b8 ≤ 1) (hcn : cn = 6) : g_M l D E T yX6_see wsX6_see 1 25 [.ref o, .int (nI n), .int (nI w), .int (nI v), .int (nI b8)] [(o, .inr (6, [u0, u1, u2, u3, u4, u5, u6, u7, u8, u9, u10, u11, u12, u13, u14, u15, u16, u17, u18, u19, u20, .int (nI cn), u22, u23, u24, u25, u26, u27, u28, u29, u30, u31, u32, u33, u34, u35]))] [(o, .inr (6, [.int 0, u1, u2, u3, u4, u5, u6, u7, u8, u9, u10, u11, u12, u13, u14, u15, u16, u17, u18, u19, u20, .int (nI cn), u22, u23, u24, u25, u26, u27, u28, u29, u30, u31, u32, u33, u34, u35]))] (some (.int (-4))) := by
  refine g_M.of (cc := cX6_see) (nL := 5) (ret := (some .int)) (own := RX6) (lv := [(0, .ref o), (1, .int (nI n)), (2, .int (nI w)), (3, .int (nI v)), (4, .int (nI b8))]) (by decide) rfl rfl (Nat.le_of_ble_eq_true rfl) rfl ?_
  intro p e R s m args below meth c A Q H locs ls hR hQ hc hr hw hl
  have hx := hc.1
  have hb := hc.2.1
  have hts := hc.2.2.2.1
  have hown := hc.2.2.2.2.1
  refine lv_aload_n hx hb dX6_see_0 rfl (lv_at hl 0 rfl) ?_
  refine lv_iconst (v := 0) hx hb dX6_see_1 (by decide) ?_
  refine g_put (TT := TX6) hc hw inX6_see_X6 tyX6 tyX6_ok nmX6 0 0 1 rfl rfl (by decide) rfl rfl rfl rfl (Nat.le_of_ble_eq_true rfl) dX6_see_2 (fun H locs hw => ?_)
  have hw : g_W D A s [(o, .inr (6, [.int 0, u1, u2, u3, u4, u5, u6, u7, u8, u9, u10, u11, u12, u13, u14, u15, u16, u17, u18, u19, u20, .int (nI cn), u22, u23, u24, u25, u26, u27, u28, u29, u30, u31, u32, u33, u34, u35]))] H locs := hw
  refine lv_iload_n hx hb dX6_see_5 rfl (lv_at hl 1 rfl) ?_
  refine lv_i2l hx hb dX6_see_6 rfl ?_
  refine lv_lconst (v := 0) hx hb dX6_see_7 (by decide) ?_
  refine lv_ldc2 (v := 9) hx hb hown (hts _ (List.mem_of_getElem? (i := 2) rfl)) dX6_see_8 ?_
  refine g_cS (As := [.long ((nI n).toInt64), .long 0, .long 9]) (n := 3) (rest := []) (wc := []) (w1 := []) (bytes := cX6_in) (maxL := 6) (ret := (some .boolean)) hc hw hl.1 (m_X6_in (l := l) (D := D) (E := E) (T := T) ((nI n).toInt64) 0 9) gX6_see_X6_in rfl (by decide +kernel) (by rw [hR]; exact ⟨Nat.le_of_ble_eq_true rfl, Nat.le_of_ble_eq_true rfl⟩) [] (by decide) rfl [] rfl rfl rfl rfl (Nat.le_of_ble_eq_true rfl) dX6_see_11 ⟨Nat.zero_le _, Nat.zero_le _⟩ (fun H locs hw => ?_)
  have hw : g_W D A s [(o, .inr (6, [.int 0, u1, u2, u3, u4, u5, u6, u7, u8, u9, u10, u11, u12, u13, u14, u15, u16, u17, u18, u19, u20, .int (nI cn), u22, u23, u24, u25, u26, u27, u28, u29, u30, u31, u32, u33, u34, u35]))] H locs := hw
  refine W.eq (congrArg (fun z => F0 m 14 ls (.int z :: [])) (show (b2i (inL ((nI n).toInt64) 0 9) : Int32) = 1 from (congrArg b2i (in_i (out_nf (n := n) (a := 0) (b := 9) (by omega) hn (by decide)) (by decide) (by decide))))) ?_
  refine lv_if_eq (tgt := 71) hx hb dX6_see_14 (by decide) (fun c_14 => absurd c_14 (by decide)) (fun c_14 => ?_)
  refine lv_iload_n hx hb dX6_see_17 rfl (lv_at hl 2 rfl) ?_
  refine lv_i2l hx hb dX6_see_18 rfl ?_
  refine lv_lconst (v := 0) hx hb dX6_see_19 (by decide) ?_
  refine lv_ldc2 (v := 2) hx hb hown (hts _ (List.mem_of_getElem? (i := 3) rfl)) dX6_see_20 ?_
  refine g_cS (As := [.long ((nI w).toInt64), .long 0, .long 2]) (n := 3) (rest := []) (wc := []) (w1 := []) (bytes := cX6_in) (maxL := 6) (ret := (some .boolean)) hc hw hl.1 (m_X6_in (l := l) (D := D) (E := E) (T := T) ((nI w).toInt64) 0 2) gX6_see_X6_in rfl (by decide +kernel) (by rw [hR]; exact ⟨Nat.le_of_ble_eq_true rfl, Nat.le_of_ble_eq_true rfl⟩) [] (by decide) rfl [] rfl rfl rfl rfl (Nat.le_of_ble_eq_true rfl) dX6_see_23 ⟨Nat.zero_le _, Nat.zero_le _⟩ (fun H locs hw => ?_)
  have hw : g_W D A s [(o, .inr (6, [.int 0, u1, u2, u3, u4, u5, u6, u7, u8, u9, u10, u11, u12, u13, u14, u15, u16, u17, u18, u19, u20, .int (nI cn), u22, u23, u24, u25, u26, u27, u28, u29, u30, u31, u32, u33, u34, u35]))] H locs := hw
  refine W.eq (congrArg (fun z => F0 m 26 ls (.int z :: [])) (show (b2i (inL ((nI w).toInt64) 0 2) : Int32) = 1 from (congrArg b2i (in_i (out_nf (n := w) (a := 0) (b := 2) (by omega) hw9 (by decide)) (by decide) (by decide))))) ?_
  refine lv_if_eq (tgt := 71) hx hb dX6_see_26 (by decide) (fun c_26 => absurd c_26 (by decide)) (fun c_26 => ?_)
  refine lv_iload_n hx hb dX6_see_29 rfl (lv_at hl 3 rfl) ?_
  refine lv_i2l hx hb dX6_see_30 rfl ?_
  refine lv_lconst (v := 0) hx hb dX6_see_31 (by decide) ?_
  refine lv_iload_n hx hb dX6_see_32 rfl (lv_at hl 2 rfl) ?_
  refine lv_if_ne (tgt := 40) hx hb dX6_see_33 (by decide) (fun c_33 => ?_) (fun c_33 => ?_)
  · skip
    have n_33 : ¬ w = 0 := nf_neT rfl rfl (by omega) (by omega) c_33
    refine lv_iload_n hx hb dX6_see_40 rfl (lv_at hl 2 rfl) ?_
    refine lv_iconst (v := 1) hx hb dX6_see_41 (by decide) ?_
    refine lv_icmp_ne (tgt := 51) hx hb dX6_see_42 (by decide) (fun c_42 => ?_) (fun c_42 => ?_)
    · skip
      have n_42 : ¬ w = 1 := nf_neT rfl rfl (by omega) (by omega) c_42
      refine lv_ldc2 (v := 3) hx hb hown (hts _ (List.mem_of_getElem? (i := 5) rfl)) dX6_see_51 ?_
      refine g_cS (As := [.long ((nI v).toInt64), .long 0, .long 3]) (n := 3) (rest := []) (wc := []) (w1 := []) (bytes := cX6_in) (maxL := 6) (ret := (some .boolean)) hc hw hl.1 (m_X6_in (l := l) (D := D) (E := E) (T := T) ((nI v).toInt64) 0 3) gX6_see_X6_in rfl (by decide +kernel) (by rw [hR]; exact ⟨Nat.le_of_ble_eq_true rfl, Nat.le_of_ble_eq_true rfl⟩) [] (by decide) rfl [] rfl rfl rfl rfl (Nat.le_of_ble_eq_true rfl) dX6_see_54 ⟨Nat.zero_le _, Nat.zero_le _⟩ (fun H locs hw => ?_)
      have hw : g_W D A s [(o, .inr (6, [.int 0, u1, u2, u3, u4, u5, u6, u7, u8, u9, u10, u11, u12, u13, u14, u15, u16, u17, u18, u19, u20, .int (nI cn), u22, u23, u24, u25, u26, u27, u28, u29, u30, u31, u32, u33, u34, u35]))] H locs := hw
      refine W.eq (congrArg (fun z => F0 m 57 ls (.int z :: [])) (show (b2i (inL ((nI v).toInt64) 0 3) : Int32) = 1 from (congrArg b2i (in_i (out_nf (n := v) (a := 0) (b := 3) (by omega) (by have h := hv9; rw [(show w = 2 by omega)] at h; exact h) (by decide)) (by decide) (by decide))))) ?_
      refine lv_if_eq (tgt := 71) hx hb dX6_see_57 (by decide) (fun c_57 => absurd c_57 (by decide)) (fun c_57 => ?_)
      refine lv_iload hx hb dX6_see_60 (lv_at hl 4 rfl) ?_
      refine lv_i2l hx hb dX6_see_62 rfl ?_
      refine lv_lconst (v := 0) hx hb dX6_see_63 (by decide) ?_
      refine lv_lconst (v := 1) hx hb dX6_see_64 (by decide) ?_
      refine g_cS (As := [.long ((nI b8).toInt64), .long 0, .long 1]) (n := 3) (rest := []) (wc := []) (w1 := []) (bytes := cX6_in) (maxL := 6) (ret := (some .boolean)) hc hw hl.1 (m_X6_in (l := l) (D := D) (E := E) (T := T) ((nI b8).toInt64) 0 1) gX6_see_X6_in rfl (by decide +kernel) (by rw [hR]; exact ⟨Nat.le_of_ble_eq_true rfl, Nat.le_of_ble_eq_true rfl⟩) [] (by decide) rfl [] rfl rfl rfl rfl (Nat.le_of_ble_eq_true rfl) dX6_see_65 ⟨Nat.zero_le _, Nat.zero_le _⟩ (fun H locs hw => ?_)
      have hw : g_W D A s [(o, .inr (6, [.int 0, u1, u2, u3, u4, u5, u6, u7, u8, u9, u10, u11, u12, u13, u14, u15, u16, u17, u18, u19, u20, .int (nI cn), u22, u23, u24, u25, u26, u27, u28, u29, u30, u31, u32, u33, u34, u35]))] H locs := hw
      refine W.eq (congrArg (fun z => F0 m 68 ls (.int z :: [])) (show (b2i (inL ((nI b8).toInt64) 0 1) : Int32) = 1 from (congrArg b2i (in_i (out_nf (n := b8) (a := 0) (b := 1) (by omega) hb9 (by decide)) (by decide) (by decide))))) ?_
      refine lv_if_ne (tgt := 74) hx hb dX6_see_68 (by decide) (fun c_68 => ?_) (fun c_68 => absurd c_68 (by decide))
      refine lv_aload_n hx hb dX6_see_74 rfl (lv_at hl 0 rfl) ?_
      refine g_get (TT := TX6) hc hw inX6_see_X6 0 21 6 rfl rfl (by decide) rfl rfl dX6_see_75 ?_
      refine lv_bipush (v := 6) hx hb dX6_see_78 (by decide) ?_
      refine lv_icmp_ne (tgt := 86) hx hb dX6_see_80 (by decide) (fun c_80 => absurd (congrArg nI hcn) c_80) (fun c_80 => ?_)
      refine lv_bipush (v := (-4)) hx hb dX6_see_83 (by decide) ?_
      exact g_iret hQ hc hw hr rfl rfl dX6_see_85
    · skip
      have n_42 : w = 1 := nf_neF rfl rfl (by omega) (by omega) c_42
      refine lv_ldc2 (v := 99) hx hb hown (hts _ (List.mem_of_getElem? (i := 4) rfl)) dX6_see_45 ?_
      refine lv_goto (tgt := 54) hx hb dX6_see_48 (by decide) ?_
      refine g_cS (As := [.long ((nI v).toInt64), .long 0, .long 99]) (n := 3) (rest := []) (wc := []) (w1 := []) (bytes := cX6_in) (maxL := 6) (ret := (some .boolean)) hc hw hl.1 (m_X6_in (l := l) (D := D) (E := E) (T := T) ((nI v).toInt64) 0 99) gX6_see_X6_in rfl (by decide +kernel) (by rw [hR]; exact ⟨Nat.le_of_ble_eq_true rfl, Nat.le_of_ble_eq_true rfl⟩) [] (by decide) rfl [] rfl rfl rfl rfl (Nat.le_of_ble_eq_true rfl) dX6_see_54 ⟨Nat.zero_le _, Nat.zero_le _⟩ (fun H locs hw => ?_)
      have hw : g_W D A s [(o, .inr (6, [.int 0, u1, u2, u3, u4, u5, u6, u7, u8, u9, u10, u11, u12, u13, u14, u15, u16, u17, u18, u19, u20, .int (nI cn), u22, u23, u24, u25, u26, u27, u28, u29, u30, u31, u32, u33, u34, u35]))] H locs := hw
      refine W.eq (congrArg (fun z => F0 m 57 ls (.int z :: [])) (show (b2i (inL ((nI v).toInt64) 0 99) : Int32) = 1 from (congrArg b2i (in_i (out_nf (n := v) (a := 0) (b := 99) (by omega) (by have h := hv9; rw [n_42] at h; exact h) (by decide)) (by decide) (by decide))))) ?_
      refine lv_if_eq (tgt := 71) hx hb dX6_see_57 (by decide) (fun c_57 => absurd c_57 (by decide)) (fun c_57 => ?_)
      refine lv_iload hx hb dX6_see_60 (lv_at hl 4 rfl) ?_
      refine lv_i2l hx hb dX6_see_62 rfl ?_
      refine lv_lconst (v := 0) hx hb dX6_see_63 (by decide) ?_
      refine lv_lconst (v := 1) hx hb dX6_see_64 (by decide) ?_
      refine g_cS (As := [.long ((nI b8).toInt64), .long 0, .long 1]) (n := 3) (rest := []) (wc := []) (w1 := []) (bytes := cX6_in) (maxL := 6) (ret := (some .boolean)) hc hw hl.1 (m_X6_in (l := l) (D := D) (E := E) (T := T) ((nI b8).toInt64) 0 1) gX6_see_X6_in rfl (by decide +kernel) (by rw [hR]; exact ⟨Nat.le_of_ble_eq_true rfl, Nat.le_of_ble_eq_true rfl⟩) [] (by decide) rfl [] rfl rfl rfl rfl (Nat.le_of_ble_eq_true rfl) dX6_see_65 ⟨Nat.zero_le _, Nat.zero_le _⟩ (fun H locs hw => ?_)
      have hw : g_W D A s [(o, .inr (6, [.int 0, u1, u2, u3, u4, u5, u6, u7, u8, u9, u10, u11, u12, u13, u14, u15, u16, u17, u18, u19, u20, .int (nI cn), u22, u23, u24, u25, u26, u27, u28, u29, u30, u31, u32, u33, u34, u35]))] H locs := hw
      refine W.eq (congrArg (fun z => F0 m 68 ls (.int z :: [])) (show (b2i (inL ((nI b8).toInt64) 0 1) : Int32) = 1 from (congrArg b2i (in_i (out_nf (n := b8) (a := 0) (b := 1) (by omega) hb9 (by decide)) (by decide) (by decide))))) ?_
      refine lv_if_ne (tgt := 74) hx hb dX6_see_68 (by decide) (fun c_68 => ?_) (fun c_68 => absurd c_68 (by decide))
      refine lv_aload_n hx hb dX6_see_74 rfl (lv_at hl 0 rfl) ?_
      refine g_get (TT := TX6) hc hw inX6_see_X6 0 21 6 rfl rfl (by decide) rfl rfl dX6_see_75 ?_
      refine lv_bipush (v := 6) hx hb dX6_see_78 (by decide) ?_
      refine lv_icmp_ne (tgt := 86) hx hb dX6_see_80 (by decide) (fun c_80 => absurd (congrArg nI hcn) c_80) (fun c_80 => ?_)
      refine lv_bipush (v := (-4)) hx hb dX6_see_83 (by decide) ?_
      exact g_iret hQ hc hw hr rfl rfl dX6_see_85
  · skip
    have n_33 : w = 0 := nf_neF rfl rfl (by omega) (by omega) c_33
    refine lv_lconst (v := 1) hx hb dX6_see_36 (by decide) ?_
    refine lv_goto (tgt := 54) hx hb dX6_see_37 (by decide) ?_
    refine g_cS (As := [.long ((nI v).toInt64), .long 0, .long 1]) (n := 3) (rest := []) (wc := []) (w1 := []) (bytes := cX6_in) (maxL := 6) (ret := (some .boolean)) hc hw hl.1 (m_X6_in (l := l) (D := D) (E := E) (T := T) ((nI v).toInt64) 0 1) gX6_see_X6_in rfl (by decide +kernel) (by rw [hR]; exact ⟨Nat.le_of_ble_eq_true rfl, Nat.le_of_ble_eq_true rfl⟩) [] (by decide) rfl [] rfl rfl rfl rfl (Nat.le_of_ble_eq_true rfl) dX6_see_54 ⟨Nat.zero_le _, Nat.zero_le _⟩ (fun H locs hw => ?_)
    have hw : g_W D A s [(o, .inr (6, [.int 0, u1, u2, u3, u4, u5, u6, u7, u8, u9, u10, u11, u12, u13, u14, u15, u16, u17, u18, u19, u20, .int (nI cn), u22, u23, u24, u25, u26, u27, u28, u29, u30, u31, u32, u33, u34, u35]))] H locs := hw
    refine W.eq (congrArg (fun z => F0 m 57 ls (.int z :: [])) (show (b2i (inL ((nI v).toInt64) 0 1) : Int32) = 1 from (congrArg b2i (in_i (out_nf (n := v) (a := 0) (b := 1) (by omega) (by have h := hv9; rw [n_33] at h; exact h) (by decide)) (by decide) (by decide))))) ?_
    refine lv_if_eq (tgt := 71) hx hb dX6_see_57 (by decide) (fun c_57 => absurd c_57 (by decide)) (fun c_57 => ?_)
    refine lv_iload hx hb dX6_see_60 (lv_at hl 4 rfl) ?_
    refine lv_i2l hx hb dX6_see_62 rfl ?_
    refine lv_lconst (v := 0) hx hb dX6_see_63 (by decide) ?_
    refine lv_lconst (v := 1) hx hb dX6_see_64 (by decide) ?_
    refine g_cS (As := [.long ((nI b8).toInt64), .long 0, .long 1]) (n := 3) (rest := []) (wc := []) (w1 := []) (bytes := cX6_in) (maxL := 6) (ret := (some .boolean)) hc hw hl.1 (m_X6_in (l := l) (D := D) (E := E) (T := T) ((nI b8).toInt64) 0 1) gX6_see_X6_in rfl (by decide +kernel) (by rw [hR]; exact ⟨Nat.le_of_ble_eq_true rfl, Nat.le_of_ble_eq_true rfl⟩) [] (by decide) rfl [] rfl rfl rfl rfl (Nat.le_of_ble_eq_true rfl) dX6_see_65 ⟨Nat.zero_le _, Nat.zero_le _⟩ (fun H locs hw => ?_)
    have hw : g_W D A s [(o, .inr (6, [.int 0, u1, u2, u3, u4, u5, u6, u7, u8, u9, u10, u11, u12, u13, u14, u15, u16, u17, u18, u19, u20, .int (nI cn), u22, u23, u24, u25, u26, u27, u28, u29, u30, u31, u32, u33, u34, u35]))] H locs := hw
    refine W.eq (congrArg (fun z => F0 m 68 ls (.int z :: [])) (show (b2i (inL ((nI b8).toInt64) 0 1) : Int32) = 1 from (congrArg b2i (in_i (out_nf (n := b8) (a := 0) (b := 1) (by omega) hb9 (by decide)) (by decide) (by decide))))) ?_
    refine lv_if_ne (tgt := 74) hx hb dX6_see_68 (by decide) (fun c_68 => ?_) (fun c_68 => absurd c_68 (by decide))
    refine lv_aload_n hx hb dX6_see_74 rfl (lv_at hl 0 rfl) ?_
    refine g_get (TT := TX6) hc hw inX6_see_X6 0 21 6 rfl rfl (by decide) rfl rfl dX6_see_75 ?_
    refine lv_bipush (v := 6) hx hb dX6_see_78 (by decide) ?_
    refine lv_icmp_ne (tgt := 86) hx hb dX6_see_80 (by decide) (fun c_80 => absurd (congrArg nI hcn) c_80) (fun c_80 => ?_)
    refine lv_bipush (v := (-4)) hx hb dX6_see_83 (by decide) ?_
    exact g_iret hQ hc hw hr rfl rfl dX6_see_85

theorem dX6_see_86 : decode cX6_see 86 = .ok (.aload_n 0, 1) := by decide +kernel
theorem dX6_see_87 : decode cX6_see 87 = .ok (.getfield 54, 3) := by decide +kernel
theorem dX6_see_90 : decode cX6_see 90 = .ok (.aload_n 0, 1) := by decide +kernel
theorem dX6_see_91 : decode cX6_see 91 = .ok (.getfield 269, 3) := by decide +kernel
theorem dX6_see_94 : decode cX6_see 94 = .ok (.iload_n 1, 1) := by decide +kernel
theorem dX6_see_95 : decode cX6_see 95 = .ok (.iastore, 1) := by decide +kernel
theorem dX6_see_96 : decode cX6_see 96 = .ok (.aload_n 0, 1) := by decide +kernel
theorem dX6_see_97 : decode cX6_see 97 = .ok (.getfield 57, 3) := by decide +kernel
theorem dX6_see_100 : decode cX6_see 100 = .ok (.aload_n 0, 1) := by decide +kernel
theorem dX6_see_101 : decode cX6_see 101 = .ok (.getfield 269, 3) := by decide +kernel
theorem dX6_see_104 : decode cX6_see 104 = .ok (.iload_n 2, 1) := by decide +kernel
theorem dX6_see_105 : decode cX6_see 105 = .ok (.iastore, 1) := by decide +kernel
theorem dX6_see_106 : decode cX6_see 106 = .ok (.aload_n 0, 1) := by decide +kernel
theorem dX6_see_107 : decode cX6_see 107 = .ok (.getfield 60, 3) := by decide +kernel
theorem dX6_see_110 : decode cX6_see 110 = .ok (.aload_n 0, 1) := by decide +kernel
theorem dX6_see_111 : decode cX6_see 111 = .ok (.getfield 269, 3) := by decide +kernel
theorem dX6_see_114 : decode cX6_see 114 = .ok (.iload_n 3, 1) := by decide +kernel
theorem dX6_see_115 : decode cX6_see 115 = .ok (.iastore, 1) := by decide +kernel
theorem dX6_see_116 : decode cX6_see 116 = .ok (.aload_n 0, 1) := by decide +kernel
theorem dX6_see_117 : decode cX6_see 117 = .ok (.getfield 63, 3) := by decide +kernel
theorem dX6_see_120 : decode cX6_see 120 = .ok (.aload_n 0, 1) := by decide +kernel
theorem dX6_see_121 : decode cX6_see 121 = .ok (.getfield 269, 3) := by decide +kernel
theorem dX6_see_124 : decode cX6_see 124 = .ok (.iload 4, 2) := by decide +kernel
theorem dX6_see_126 : decode cX6_see 126 = .ok (.iastore, 1) := by decide +kernel
theorem dX6_see_127 : decode cX6_see 127 = .ok (.aload_n 0, 1) := by decide +kernel
theorem dX6_see_128 : decode cX6_see 128 = .ok (.dup, 1) := by decide +kernel
theorem dX6_see_129 : decode cX6_see 129 = .ok (.getfield 269, 3) := by decide +kernel
theorem dX6_see_132 : decode cX6_see 132 = .ok (.iconst 1, 1) := by decide +kernel
theorem dX6_see_133 : decode cX6_see 133 = .ok (.iadd, 1) := by decide +kernel
theorem dX6_see_134 : decode cX6_see 134 = .ok (.putfield 269, 3) := by decide +kernel
theorem dX6_see_137 : decode cX6_see 137 = .ok (.aload_n 0, 1) := by decide +kernel
theorem dX6_see_138 : decode cX6_see 138 = .ok (.getfield 269, 3) := by decide +kernel
theorem dX6_see_141 : decode cX6_see 141 = .ok (.ireturn, 1) := by decide +kernel
set_option maxRecDepth 100000 in
set_option maxHeartbeats 4000000 in
theorem m_X6_see {l : Launch} {D : va_G} {E : Nat → ClassId} {T : Nat → Nat} (o : Nat) (n : Nat) (w : Nat) (v : Nat) (b8 : Nat) (cn : Nat) (s1 : Nat) (s2 : Nat) (s3 : Nat) (s4 : Nat) (u0 : Value) (u1 : Value) (u2 : Value) (u3 : Value) (u4 : Value) (u5 : Value) (u6 : Value) (u7 : Value) (u8 : Value) (u9 : Value) (u10 : Value) (u11 : Value) (u12 : Value) (u13 : Value) (u14 : Value) (u15 : Value) (u16 : Value) (u17 : Value) (u18 : Value) (u19 : Value) (u20 : Value) (u26 : Value) (u27 : Value) (u28 : Value) (u29 : Value) (u30 : Value) (u31 : Value) (u32 : Value) (u33 : Value) (u34 : Value) (u35 : Value) (ga : Nat → Int32) (gb : Nat → Int32) (gc : Nat → Int32) (gd : Nat → Int32) (hn : n ≤ 9) (hw9 : w ≤ 2) (hv9 : v ≤ grN w) (hg9 : grN w ≤ 99) (hb9 : b8 ≤ 1) (hcn : cn < 6) : g_M l D E T yX6_see wsX6_see 1 25 [.ref o, .int (nI n), .int (nI w), .int (nI v), .int (nI b8)] [(o, .inr (6, [u0, u1, u2, u3, u4, u5, u6, u7, u8, u9, u10, u11, u12, u13, u14, u15, u16, u17, u18, u19, u20, .int (nI cn), .ref s1, .ref s2, .ref s3, .ref s4, u26, u27, u28, u29, u30, u31, u32, u33, u34, u35])), (s1, .inl (E 0, 6, .inl ga)), (s2, .inl (E 0, 6, .inl gb)), (s3, .inl (E 0, 6, .inl gc)), (s4, .inl (E 0, 6, .inl gd))] [(o, .inr (6, [.int 0, u1, u2, u3, u4, u5, u6, u7, u8, u9, u10, u11, u12, u13, u14, u15, u16, u17, u18, u19, u20, .int (nI (cn + 1)), .ref s1, .ref s2, .ref s3, .ref s4, u26, u27, u28, u29, u30, u31, u32, u33, u34, u35])), (s1, .inl (E 0, 6, .inl (upd ga cn (nI n)))), (s2, .inl (E 0, 6, .inl (upd gb cn (nI w)))), (s3, .inl (E 0, 6, .inl (upd gc cn (nI v)))), (s4, .inl (E 0, 6, .inl (upd gd cn (nI b8))))] (some (.int (nI (cn + 1)))) := by
  refine g_M.of (cc := cX6_see) (nL := 5) (ret := (some .int)) (own := RX6) (lv := [(0, .ref o), (1, .int (nI n)), (2, .int (nI w)), (3, .int (nI v)), (4, .int (nI b8))]) (by decide) rfl rfl (Nat.le_of_ble_eq_true rfl) rfl ?_
  intro p e R s m args below meth c A Q H locs ls hR hQ hc hr hw hl
  have hx := hc.1
  have hb := hc.2.1
  have hts := hc.2.2.2.1
  have hown := hc.2.2.2.2.1
  refine lv_aload_n hx hb dX6_see_0 rfl (lv_at hl 0 rfl) ?_
  refine lv_iconst (v := 0) hx hb dX6_see_1 (by decide) ?_
  refine g_put (TT := TX6) hc hw inX6_see_X6 tyX6 tyX6_ok nmX6 0 0 1 rfl rfl (by decide) rfl rfl rfl rfl (Nat.le_of_ble_eq_true rfl) dX6_see_2 (fun H locs hw => ?_)
  have hw : g_W D A s [(o, .inr (6, [.int 0, u1, u2, u3, u4, u5, u6, u7, u8, u9, u10, u11, u12, u13, u14, u15, u16, u17, u18, u19, u20, .int (nI cn), .ref s1, .ref s2, .ref s3, .ref s4, u26, u27, u28, u29, u30, u31, u32, u33, u34, u35])), (s1, .inl (E 0, 6, .inl ga)), (s2, .inl (E 0, 6, .inl gb)), (s3, .inl (E 0, 6, .inl gc)), (s4, .inl (E 0, 6, .inl gd))] H locs := hw
  refine lv_iload_n hx hb dX6_see_5 rfl (lv_at hl 1 rfl) ?_
  refine lv_i2l hx hb dX6_see_6 rfl ?_
  refine lv_lconst (v := 0) hx hb dX6_see_7 (by decide) ?_
  refine lv_ldc2 (v := 9) hx hb hown (hts _ (List.mem_of_getElem? (i := 2) rfl)) dX6_see_8 ?_
  refine g_cS (As := [.long ((nI n).toInt64), .long 0, .long 9]) (n := 3) (rest := []) (wc := []) (w1 := []) (bytes := cX6_in) (maxL := 6) (ret := (some .boolean)) hc hw hl.1 (m_X6_in (l := l) (D := D) (E := E) (T := T) ((nI n).toInt64) 0 9) gX6_see_X6_in rfl (by decide +kernel) (by rw [hR]; exact ⟨Nat.le_of_ble_eq_true rfl, Nat.le_of_ble_eq_true rfl⟩) [] (by decide) rfl [] rfl rfl rfl rfl (Nat.le_of_ble_eq_true rfl) dX6_see_11 ⟨Nat.zero_le _, Nat.zero_le _⟩ (fun H locs hw => ?_)
  have hw : g_W D A s [(o, .inr (6, [.int 0, u1, u2, u3, u4, u5, u6, u7, u8, u9, u10, u11, u12, u13, u14, u15, u16, u17, u18, u19, u20, .int (nI cn), .ref s1, .ref s2, .ref s3, .ref s4, u26, u27, u28, u29, u30, u31, u32, u33, u34, u35])), (s1, .inl (E 0, 6, .inl ga)), (s2, .inl (E 0, 6, .inl gb)), (s3, .inl (E 0, 6, .inl gc)), (s4, .inl (E 0, 6, .inl gd))] H locs := hw
  refine W.eq (congrArg (fun z => F0 m 14 ls (.int z :: [])) (show (b2i (inL ((nI n).toInt64) 0 9) : Int32) = 1 from (congrArg b2i (in_i (out_nf (n := n) (a := 0) (b := 9) (by omega) hn (by decide)) (by decide) (by decide))))) ?_
  refine lv_if_eq (tgt := 71) hx hb dX6_see_14 (by decide) (fun c_14 => absurd c_14 (by decide)) (fun c_14 => ?_)
  refine lv_iload_n hx hb dX6_see_17 rfl (lv_at hl 2 rfl) ?_
  refine lv_i2l hx hb dX6_see_18 rfl ?_
  refine lv_lconst (v := 0) hx hb dX6_see_19 (by decide) ?_
  refine lv_ldc2 (v := 2) hx hb hown (hts _ (List.mem_of_getElem? (i := 3) rfl)) dX6_see_20 ?_
  refine g_cS (As := [.long ((nI w).toInt64), .long 0, .long 2]) (n := 3) (rest := []) (wc := []) (w1 := []) (bytes := cX6_in) (maxL := 6) (ret := (some .boolean)) hc hw hl.1 (m_X6_in (l := l) (D := D) (E := E) (T := T) ((nI w).toInt64) 0 2) gX6_see_X6_in rfl (by decide +kernel) (by rw [hR]; exact ⟨Nat.le_of_ble_eq_true rfl, Nat.le_of_ble_eq_true rfl⟩) [] (by decide) rfl [] rfl rfl rfl rfl (Nat.le_of_ble_eq_true rfl) dX6_see_23 ⟨Nat.zero_le _, Nat.zero_le _⟩ (fun H locs hw => ?_)
  have hw : g_W D A s [(o, .inr (6, [.int 0, u1, u2, u3, u4, u5, u6, u7, u8, u9, u10, u11, u12, u13, u14, u15, u16, u17, u18, u19, u20, .int (nI cn), .ref s1, .ref s2, .ref s3, .ref s4, u26, u27, u28, u29, u30, u31, u32, u33, u34, u35])), (s1, .inl (E 0, 6, .inl ga)), (s2, .inl (E 0, 6, .inl gb)), (s3, .inl (E 0, 6, .inl gc)), (s4, .inl (E 0, 6, .inl gd))] H locs := hw
  refine W.eq (congrArg (fun z => F0 m 26 ls (.int z :: [])) (show (b2i (inL ((nI w).toInt64) 0 2) : Int32) = 1 from (congrArg b2i (in_i (out_nf (n := w) (a := 0) (b := 2) (by omega) hw9 (by decide)) (by decide) (by decide))))) ?_
  refine lv_if_eq (tgt := 71) hx hb dX6_see_26 (by decide) (fun c_26 => absurd c_26 (by decide)) (fun c_26 => ?_)
  refine lv_iload_n hx hb dX6_see_29 rfl (lv_at hl 3 rfl) ?_
  refine lv_i2l hx hb dX6_see_30 rfl ?_
  refine lv_lconst (v := 0) hx hb dX6_see_31 (by decide) ?_
  refine lv_iload_n hx hb dX6_see_32 rfl (lv_at hl 2 rfl) ?_
  refine lv_if_ne (tgt := 40) hx hb dX6_see_33 (by decide) (fun c_33 => ?_) (fun c_33 => ?_)
  · skip
    have n_33 : ¬ w = 0 := nf_neT rfl rfl (by omega) (by omega) c_33
    refine lv_iload_n hx hb dX6_see_40 rfl (lv_at hl 2 rfl) ?_
    refine lv_iconst (v := 1) hx hb dX6_see_41 (by decide) ?_
    refine lv_icmp_ne (tgt := 51) hx hb dX6_see_42 (by decide) (fun c_42 => ?_) (fun c_42 => ?_)
    · skip
      have n_42 : ¬ w = 1 := nf_neT rfl rfl (by omega) (by omega) c_42
      refine lv_ldc2 (v := 3) hx hb hown (hts _ (List.mem_of_getElem? (i := 5) rfl)) dX6_see_51 ?_
      refine g_cS (As := [.long ((nI v).toInt64), .long 0, .long 3]) (n := 3) (rest := []) (wc := []) (w1 := []) (bytes := cX6_in) (maxL := 6) (ret := (some .boolean)) hc hw hl.1 (m_X6_in (l := l) (D := D) (E := E) (T := T) ((nI v).toInt64) 0 3) gX6_see_X6_in rfl (by decide +kernel) (by rw [hR]; exact ⟨Nat.le_of_ble_eq_true rfl, Nat.le_of_ble_eq_true rfl⟩) [] (by decide) rfl [] rfl rfl rfl rfl (Nat.le_of_ble_eq_true rfl) dX6_see_54 ⟨Nat.zero_le _, Nat.zero_le _⟩ (fun H locs hw => ?_)
      have hw : g_W D A s [(o, .inr (6, [.int 0, u1, u2, u3, u4, u5, u6, u7, u8, u9, u10, u11, u12, u13, u14, u15, u16, u17, u18, u19, u20, .int (nI cn), .ref s1, .ref s2, .ref s3, .ref s4, u26, u27, u28, u29, u30, u31, u32, u33, u34, u35])), (s1, .inl (E 0, 6, .inl ga)), (s2, .inl (E 0, 6, .inl gb)), (s3, .inl (E 0, 6, .inl gc)), (s4, .inl (E 0, 6, .inl gd))] H locs := hw
      refine W.eq (congrArg (fun z => F0 m 57 ls (.int z :: [])) (show (b2i (inL ((nI v).toInt64) 0 3) : Int32) = 1 from (congrArg b2i (in_i (out_nf (n := v) (a := 0) (b := 3) (by omega) (by have h := hv9; rw [(show w = 2 by omega)] at h; exact h) (by decide)) (by decide) (by decide))))) ?_
      refine lv_if_eq (tgt := 71) hx hb dX6_see_57 (by decide) (fun c_57 => absurd c_57 (by decide)) (fun c_57 => ?_)
      refine lv_iload hx hb dX6_see_60 (lv_at hl 4 rfl) ?_
      refine lv_i2l hx hb dX6_see_62 rfl ?_
      refine lv_lconst (v := 0) hx hb dX6_see_63 (by decide) ?_
      refine lv_lconst (v := 1) hx hb dX6_see_64 (by decide) ?_
      refine g_cS (As := [.long ((nI b8).toInt64), .long 0, .long 1]) (n := 3) (rest := []) (wc := []) (w1 := []) (bytes := cX6_in) (maxL := 6) (ret := (some .boolean)) hc hw hl.1 (m_X6_in (l := l) (D := D) (E := E) (T := T) ((nI b8).toInt64) 0 1) gX6_see_X6_in rfl (by decide +kernel) (by rw [hR]; exact ⟨Nat.le_of_ble_eq_true rfl, Nat.le_of_ble_eq_true rfl⟩) [] (by decide) rfl [] rfl rfl rfl rfl (Nat.le_of_ble_eq_true rfl) dX6_see_65 ⟨Nat.zero_le _, Nat.zero_le _⟩ (fun H locs hw => ?_)
      have hw : g_W D A s [(o, .inr (6, [.int 0, u1, u2, u3, u4, u5, u6, u7, u8, u9, u10, u11, u12, u13, u14, u15, u16, u17, u18, u19, u20, .int (nI cn), .ref s1, .ref s2, .ref s3, .ref s4, u26, u27, u28, u29, u30, u31, u32, u33, u34, u35])), (s1, .inl (E 0, 6, .inl ga)), (s2, .inl (E 0, 6, .inl gb)), (s3, .inl (E 0, 6, .inl gc)), (s4, .inl (E 0, 6, .inl gd))] H locs := hw
      refine W.eq (congrArg (fun z => F0 m 68 ls (.int z :: [])) (show (b2i (inL ((nI b8).toInt64) 0 1) : Int32) = 1 from (congrArg b2i (in_i (out_nf (n := b8) (a := 0) (b := 1) (by omega) hb9 (by decide)) (by decide) (by decide))))) ?_
      refine lv_if_ne (tgt := 74) hx hb dX6_see_68 (by decide) (fun c_68 => ?_) (fun c_68 => absurd c_68 (by decide))
      have J74 : ∀ (H : Heap) (locs : List Loc) (ls : Array Slot), g_W D A s [(o, .inr (6, [.int 0, u1, u2, u3, u4, u5, u6, u7, u8, u9, u10, u11, u12, u13, u14, u15, u16, u17, u18, u19, u20, .int (nI cn), .ref s1, .ref s2, .ref s3, .ref s4, u26, u27, u28, u29, u30, u31, u32, u33, u34, u35])), (s1, .inl (E 0, 6, .inl ga)), (s2, .inl (E 0, 6, .inl gb)), (s3, .inl (E 0, 6, .inl gc)), (s4, .inl (E 0, 6, .inl gd))] H locs → lv_has ls 5 [(0, .ref o), (1, .int (nI n)), (2, .int (nI w)), (3, .int (nI v)), (4, .int (nI b8))] → W p l e R s m args below meth c H locs 0 0 Q (F0 m 74 ls []) := by
        intro   H locs ls hw hl
        refine lv_aload_n hx hb dX6_see_74 rfl (lv_at hl 0 rfl) ?_
        refine g_get (TT := TX6) hc hw inX6_see_X6 0 21 6 rfl rfl (by decide) rfl rfl dX6_see_75 ?_
        refine lv_bipush (v := 6) hx hb dX6_see_78 (by decide) ?_
        refine lv_icmp_ne (tgt := 86) hx hb dX6_see_80 (by decide) (fun c_80 => ?_) (fun c_80 => absurd c_80 (nI_ne (a := cn) (b := 6) (by omega) (by decide) (by omega)))
        refine lv_aload_n hx hb dX6_see_86 rfl (lv_at hl 0 rfl) ?_
        refine g_get (TT := TX6) hc hw inX6_see_X6 0 22 7 rfl rfl (by decide) rfl rfl dX6_see_87 ?_
        refine lv_aload_n hx hb dX6_see_90 rfl (lv_at hl 0 rfl) ?_
        refine g_get (TT := TX6) hc hw inX6_see_X6 0 21 6 rfl rfl (by decide) rfl rfl dX6_see_91 ?_
        refine lv_iload_n hx hb dX6_see_94 rfl (lv_at hl 1 rfl) ?_
        refine g_ist hc hw 1 cn rfl rfl (by omega) (by decide) dX6_see_95 (fun H locs hw => ?_)
        have hw : g_W D A s [(o, .inr (6, [.int 0, u1, u2, u3, u4, u5, u6, u7, u8, u9, u10, u11, u12, u13, u14, u15, u16, u17, u18, u19, u20, .int (nI cn), .ref s1, .ref s2, .ref s3, .ref s4, u26, u27, u28, u29, u30, u31, u32, u33, u34, u35])), (s1, .inl (E 0, 6, .inl (upd ga cn (nI n)))), (s2, .inl (E 0, 6, .inl gb)), (s3, .inl (E 0, 6, .inl gc)), (s4, .inl (E 0, 6, .inl gd))] H locs := hw
        refine lv_aload_n hx hb dX6_see_96 rfl (lv_at hl 0 rfl) ?_
        refine g_get (TT := TX6) hc hw inX6_see_X6 0 23 8 rfl rfl (by decide) rfl rfl dX6_see_97 ?_
        refine lv_aload_n hx hb dX6_see_100 rfl (lv_at hl 0 rfl) ?_
        refine g_get (TT := TX6) hc hw inX6_see_X6 0 21 6 rfl rfl (by decide) rfl rfl dX6_see_101 ?_
        refine lv_iload_n hx hb dX6_see_104 rfl (lv_at hl 2 rfl) ?_
        refine g_ist hc hw 2 cn rfl rfl (by omega) (by decide) dX6_see_105 (fun H locs hw => ?_)
        have hw : g_W D A s [(o, .inr (6, [.int 0, u1, u2, u3, u4, u5, u6, u7, u8, u9, u10, u11, u12, u13, u14, u15, u16, u17, u18, u19, u20, .int (nI cn), .ref s1, .ref s2, .ref s3, .ref s4, u26, u27, u28, u29, u30, u31, u32, u33, u34, u35])), (s1, .inl (E 0, 6, .inl (upd ga cn (nI n)))), (s2, .inl (E 0, 6, .inl (upd gb cn (nI w)))), (s3, .inl (E 0, 6, .inl gc)), (s4, .inl (E 0, 6, .inl gd))] H locs := hw
        refine lv_aload_n hx hb dX6_see_106 rfl (lv_at hl 0 rfl) ?_
        refine g_get (TT := TX6) hc hw inX6_see_X6 0 24 9 rfl rfl (by decide) rfl rfl dX6_see_107 ?_
        refine lv_aload_n hx hb dX6_see_110 rfl (lv_at hl 0 rfl) ?_
        refine g_get (TT := TX6) hc hw inX6_see_X6 0 21 6 rfl rfl (by decide) rfl rfl dX6_see_111 ?_
        refine lv_iload_n hx hb dX6_see_114 rfl (lv_at hl 3 rfl) ?_
        refine g_ist hc hw 3 cn rfl rfl (by omega) (by decide) dX6_see_115 (fun H locs hw => ?_)
        have hw : g_W D A s [(o, .inr (6, [.int 0, u1, u2, u3, u4, u5, u6, u7, u8, u9, u10, u11, u12, u13, u14, u15, u16, u17, u18, u19, u20, .int (nI cn), .ref s1, .ref s2, .ref s3, .ref s4, u26, u27, u28, u29, u30, u31, u32, u33, u34, u35])), (s1, .inl (E 0, 6, .inl (upd ga cn (nI n)))), (s2, .inl (E 0, 6, .inl (upd gb cn (nI w)))), (s3, .inl (E 0, 6, .inl (upd gc cn (nI v)))), (s4, .inl (E 0, 6, .inl gd))] H locs := hw
        refine lv_aload_n hx hb dX6_see_116 rfl (lv_at hl 0 rfl) ?_
        refine g_get (TT := TX6) hc hw inX6_see_X6 0 25 10 rfl rfl (by decide) rfl rfl dX6_see_117 ?_
        refine lv_aload_n hx hb dX6_see_120 rfl (lv_at hl 0 rfl) ?_
        refine g_get (TT := TX6) hc hw inX6_see_X6 0 21 6 rfl rfl (by decide) rfl rfl dX6_see_121 ?_
        refine lv_iload hx hb dX6_see_124 (lv_at hl 4 rfl) ?_
        refine g_ist hc hw 4 cn rfl rfl (by omega) (by decide) dX6_see_126 (fun H locs hw => ?_)
        have hw : g_W D A s [(o, .inr (6, [.int 0, u1, u2, u3, u4, u5, u6, u7, u8, u9, u10, u11, u12, u13, u14, u15, u16, u17, u18, u19, u20, .int (nI cn), .ref s1, .ref s2, .ref s3, .ref s4, u26, u27, u28, u29, u30, u31, u32, u33, u34, u35])), (s1, .inl (E 0, 6, .inl (upd ga cn (nI n)))), (s2, .inl (E 0, 6, .inl (upd gb cn (nI w)))), (s3, .inl (E 0, 6, .inl (upd gc cn (nI v)))), (s4, .inl (E 0, 6, .inl (upd gd cn (nI b8))))] H locs := hw
        refine lv_aload_n hx hb dX6_see_127 rfl (lv_at hl 0 rfl) ?_
        refine lv_dup hx hb dX6_see_128 rfl ?_
        refine g_get (TT := TX6) hc hw inX6_see_X6 0 21 6 rfl rfl (by decide) rfl rfl dX6_see_129 ?_
        refine lv_iconst (v := 1) hx hb dX6_see_132 (by decide) ?_
        refine lv_iadd hx hb dX6_see_133 ?_
        refine W.eq (congrArg (fun z => F0 m 134 ls (.int z :: [.ref o])) (show ((nI cn) + 1 : Int32) = nI (cn + 1) from (n_add rfl rfl))) ?_
        refine g_put (TT := TX6) hc hw inX6_see_X6 tyX6 tyX6_ok nmX6 0 21 6 rfl rfl (by decide) rfl rfl rfl rfl (Nat.le_of_ble_eq_true rfl) dX6_see_134 (fun H locs hw => ?_)
        have hw : g_W D A s [(o, .inr (6, [.int 0, u1, u2, u3, u4, u5, u6, u7, u8, u9, u10, u11, u12, u13, u14, u15, u16, u17, u18, u19, u20, .int (nI (cn + 1)), .ref s1, .ref s2, .ref s3, .ref s4, u26, u27, u28, u29, u30, u31, u32, u33, u34, u35])), (s1, .inl (E 0, 6, .inl (upd ga cn (nI n)))), (s2, .inl (E 0, 6, .inl (upd gb cn (nI w)))), (s3, .inl (E 0, 6, .inl (upd gc cn (nI v)))), (s4, .inl (E 0, 6, .inl (upd gd cn (nI b8))))] H locs := hw
        refine lv_aload_n hx hb dX6_see_137 rfl (lv_at hl 0 rfl) ?_
        refine g_get (TT := TX6) hc hw inX6_see_X6 0 21 6 rfl rfl (by decide) rfl rfl dX6_see_138 ?_
        exact g_iret hQ hc hw hr rfl rfl dX6_see_141
      exact J74   _ _ _ hw (lv_sub hl [0, 1, 2, 3, 4] rfl)
    · skip
      have n_42 : w = 1 := nf_neF rfl rfl (by omega) (by omega) c_42
      refine lv_ldc2 (v := 99) hx hb hown (hts _ (List.mem_of_getElem? (i := 4) rfl)) dX6_see_45 ?_
      refine lv_goto (tgt := 54) hx hb dX6_see_48 (by decide) ?_
      refine g_cS (As := [.long ((nI v).toInt64), .long 0, .long 99]) (n := 3) (rest := []) (wc := []) (w1 := []) (bytes := cX6_in) (maxL := 6) (ret := (some .boolean)) hc hw hl.1 (m_X6_in (l := l) (D := D) (E := E) (T := T) ((nI v).toInt64) 0 99) gX6_see_X6_in rfl (by decide +kernel) (by rw [hR]; exact ⟨Nat.le_of_ble_eq_true rfl, Nat.le_of_ble_eq_true rfl⟩) [] (by decide) rfl [] rfl rfl rfl rfl (Nat.le_of_ble_eq_true rfl) dX6_see_54 ⟨Nat.zero_le _, Nat.zero_le _⟩ (fun H locs hw => ?_)
      have hw : g_W D A s [(o, .inr (6, [.int 0, u1, u2, u3, u4, u5, u6, u7, u8, u9, u10, u11, u12, u13, u14, u15, u16, u17, u18, u19, u20, .int (nI cn), .ref s1, .ref s2, .ref s3, .ref s4, u26, u27, u28, u29, u30, u31, u32, u33, u34, u35])), (s1, .inl (E 0, 6, .inl ga)), (s2, .inl (E 0, 6, .inl gb)), (s3, .inl (E 0, 6, .inl gc)), (s4, .inl (E 0, 6, .inl gd))] H locs := hw
      refine W.eq (congrArg (fun z => F0 m 57 ls (.int z :: [])) (show (b2i (inL ((nI v).toInt64) 0 99) : Int32) = 1 from (congrArg b2i (in_i (out_nf (n := v) (a := 0) (b := 99) (by omega) (by have h := hv9; rw [n_42] at h; exact h) (by decide)) (by decide) (by decide))))) ?_
      refine lv_if_eq (tgt := 71) hx hb dX6_see_57 (by decide) (fun c_57 => absurd c_57 (by decide)) (fun c_57 => ?_)
      refine lv_iload hx hb dX6_see_60 (lv_at hl 4 rfl) ?_
      refine lv_i2l hx hb dX6_see_62 rfl ?_
      refine lv_lconst (v := 0) hx hb dX6_see_63 (by decide) ?_
      refine lv_lconst (v := 1) hx hb dX6_see_64 (by decide) ?_
      refine g_cS (As := [.long ((nI b8).toInt64), .long 0, .long 1]) (n := 3) (rest := []) (wc := []) (w1 := []) (bytes := cX6_in) (maxL := 6) (ret := (some .boolean)) hc hw hl.1 (m_X6_in (l := l) (D := D) (E := E) (T := T) ((nI b8).toInt64) 0 1) gX6_see_X6_in rfl (by decide +kernel) (by rw [hR]; exact ⟨Nat.le_of_ble_eq_true rfl, Nat.le_of_ble_eq_true rfl⟩) [] (by decide) rfl [] rfl rfl rfl rfl (Nat.le_of_ble_eq_true rfl) dX6_see_65 ⟨Nat.zero_le _, Nat.zero_le _⟩ (fun H locs hw => ?_)
      have hw : g_W D A s [(o, .inr (6, [.int 0, u1, u2, u3, u4, u5, u6, u7, u8, u9, u10, u11, u12, u13, u14, u15, u16, u17, u18, u19, u20, .int (nI cn), .ref s1, .ref s2, .ref s3, .ref s4, u26, u27, u28, u29, u30, u31, u32, u33, u34, u35])), (s1, .inl (E 0, 6, .inl ga)), (s2, .inl (E 0, 6, .inl gb)), (s3, .inl (E 0, 6, .inl gc)), (s4, .inl (E 0, 6, .inl gd))] H locs := hw
      refine W.eq (congrArg (fun z => F0 m 68 ls (.int z :: [])) (show (b2i (inL ((nI b8).toInt64) 0 1) : Int32) = 1 from (congrArg b2i (in_i (out_nf (n := b8) (a := 0) (b := 1) (by omega) hb9 (by decide)) (by decide) (by decide))))) ?_
      refine lv_if_ne (tgt := 74) hx hb dX6_see_68 (by decide) (fun c_68 => ?_) (fun c_68 => absurd c_68 (by decide))
      have J74 : ∀ (H : Heap) (locs : List Loc) (ls : Array Slot), g_W D A s [(o, .inr (6, [.int 0, u1, u2, u3, u4, u5, u6, u7, u8, u9, u10, u11, u12, u13, u14, u15, u16, u17, u18, u19, u20, .int (nI cn), .ref s1, .ref s2, .ref s3, .ref s4, u26, u27, u28, u29, u30, u31, u32, u33, u34, u35])), (s1, .inl (E 0, 6, .inl ga)), (s2, .inl (E 0, 6, .inl gb)), (s3, .inl (E 0, 6, .inl gc)), (s4, .inl (E 0, 6, .inl gd))] H locs → lv_has ls 5 [(0, .ref o), (1, .int (nI n)), (2, .int (nI w)), (3, .int (nI v)), (4, .int (nI b8))] → W p l e R s m args below meth c H locs 0 0 Q (F0 m 74 ls []) := by
        intro   H locs ls hw hl
        refine lv_aload_n hx hb dX6_see_74 rfl (lv_at hl 0 rfl) ?_
        refine g_get (TT := TX6) hc hw inX6_see_X6 0 21 6 rfl rfl (by decide) rfl rfl dX6_see_75 ?_
        refine lv_bipush (v := 6) hx hb dX6_see_78 (by decide) ?_
        refine lv_icmp_ne (tgt := 86) hx hb dX6_see_80 (by decide) (fun c_80 => ?_) (fun c_80 => absurd c_80 (nI_ne (a := cn) (b := 6) (by omega) (by decide) (by omega)))
        refine lv_aload_n hx hb dX6_see_86 rfl (lv_at hl 0 rfl) ?_
        refine g_get (TT := TX6) hc hw inX6_see_X6 0 22 7 rfl rfl (by decide) rfl rfl dX6_see_87 ?_
        refine lv_aload_n hx hb dX6_see_90 rfl (lv_at hl 0 rfl) ?_
        refine g_get (TT := TX6) hc hw inX6_see_X6 0 21 6 rfl rfl (by decide) rfl rfl dX6_see_91 ?_
        refine lv_iload_n hx hb dX6_see_94 rfl (lv_at hl 1 rfl) ?_
        refine g_ist hc hw 1 cn rfl rfl (by omega) (by decide) dX6_see_95 (fun H locs hw => ?_)
        have hw : g_W D A s [(o, .inr (6, [.int 0, u1, u2, u3, u4, u5, u6, u7, u8, u9, u10, u11, u12, u13, u14, u15, u16, u17, u18, u19, u20, .int (nI cn), .ref s1, .ref s2, .ref s3, .ref s4, u26, u27, u28, u29, u30, u31, u32, u33, u34, u35])), (s1, .inl (E 0, 6, .inl (upd ga cn (nI n)))), (s2, .inl (E 0, 6, .inl gb)), (s3, .inl (E 0, 6, .inl gc)), (s4, .inl (E 0, 6, .inl gd))] H locs := hw
        refine lv_aload_n hx hb dX6_see_96 rfl (lv_at hl 0 rfl) ?_
        refine g_get (TT := TX6) hc hw inX6_see_X6 0 23 8 rfl rfl (by decide) rfl rfl dX6_see_97 ?_
        refine lv_aload_n hx hb dX6_see_100 rfl (lv_at hl 0 rfl) ?_
        refine g_get (TT := TX6) hc hw inX6_see_X6 0 21 6 rfl rfl (by decide) rfl rfl dX6_see_101 ?_
        refine lv_iload_n hx hb dX6_see_104 rfl (lv_at hl 2 rfl) ?_
        refine g_ist hc hw 2 cn rfl rfl (by omega) (by decide) dX6_see_105 (fun H locs hw => ?_)
        have hw : g_W D A s [(o, .inr (6, [.int 0, u1, u2, u3, u4, u5, u6, u7, u8, u9, u10, u11, u12, u13, u14, u15, u16, u17, u18, u19, u20, .int (nI cn), .ref s1, .ref s2, .ref s3, .ref s4, u26, u27, u28, u29, u30, u31, u32, u33, u34, u35])), (s1, .inl (E 0, 6, .inl (upd ga cn (nI n)))), (s2, .inl (E 0, 6, .inl (upd gb cn (nI w)))), (s3, .inl (E 0, 6, .inl gc)), (s4, .inl (E 0, 6, .inl gd))] H locs := hw
        refine lv_aload_n hx hb dX6_see_106 rfl (lv_at hl 0 rfl) ?_
        refine g_get (TT := TX6) hc hw inX6_see_X6 0 24 9 rfl rfl (by decide) rfl rfl dX6_see_107 ?_
        refine lv_aload_n hx hb dX6_see_110 rfl (lv_at hl 0 rfl) ?_
        refine g_get (TT := TX6) hc hw inX6_see_X6 0 21 6 rfl rfl (by decide) rfl rfl dX6_see_111 ?_
        refine lv_iload_n hx hb dX6_see_114 rfl (lv_at hl 3 rfl) ?_
        refine g_ist hc hw 3 cn rfl rfl (by omega) (by decide) dX6_see_115 (fun H locs hw => ?_)
        have hw : g_W D A s [(o, .inr (6, [.int 0, u1, u2, u3, u4, u5, u6, u7, u8, u9, u10, u11, u12, u13, u14, u15, u16, u17, u18, u19, u20, .int (nI cn), .ref s1, .ref s2, .ref s3, .ref s4, u26, u27, u28, u29, u30, u31, u32, u33, u34, u35])), (s1, .inl (E 0, 6, .inl (upd ga cn (nI n)))), (s2, .inl (E 0, 6, .inl (upd gb cn (nI w)))), (s3, .inl (E 0, 6, .inl (upd gc cn (nI v)))), (s4, .inl (E 0, 6, .inl gd))] H locs := hw
        refine lv_aload_n hx hb dX6_see_116 rfl (lv_at hl 0 rfl) ?_
        refine g_get (TT := TX6) hc hw inX6_see_X6 0 25 10 rfl rfl (by decide) rfl rfl dX6_see_117 ?_
        refine lv_aload_n hx hb dX6_see_120 rfl (lv_at hl 0 rfl) ?_
        refine g_get (TT := TX6) hc hw inX6_see_X6 0 21 6 rfl rfl (by decide) rfl rfl dX6_see_121 ?_
        refine lv_iload hx hb dX6_see_124 (lv_at hl 4 rfl) ?_
        refine g_ist hc hw 4 cn rfl rfl (by omega) (by decide) dX6_see_126 (fun H locs hw => ?_)
        have hw : g_W D A s [(o, .inr (6, [.int 0, u1, u2, u3, u4, u5, u6, u7, u8, u9, u10, u11, u12, u13, u14, u15, u16, u17, u18, u19, u20, .int (nI cn), .ref s1, .ref s2, .ref s3, .ref s4, u26, u27, u28, u29, u30, u31, u32, u33, u34, u35])), (s1, .inl (E 0, 6, .inl (upd ga cn (nI n)))), (s2, .inl (E 0, 6, .inl (upd gb cn (nI w)))), (s3, .inl (E 0, 6, .inl (upd gc cn (nI v)))), (s4, .inl (E 0, 6, .inl (upd gd cn (nI b8))))] H locs := hw
        refine lv_aload_n hx hb dX6_see_127 rfl (lv_at hl 0 rfl) ?_
        refine lv_dup hx hb dX6_see_128 rfl ?_
        refine g_get (TT := TX6) hc hw inX6_see_X6 0 21 6 rfl rfl (by decide) rfl rfl dX6_see_129 ?_
        refine lv_iconst (v := 1) hx hb dX6_see_132 (by decide) ?_
        refine lv_iadd hx hb dX6_see_133 ?_
        refine W.eq (congrArg (fun z => F0 m 134 ls (.int z :: [.ref o])) (show ((nI cn) + 1 : Int32) = nI (cn + 1) from (n_add rfl rfl))) ?_
        refine g_put (TT := TX6) hc hw inX6_see_X6 tyX6 tyX6_ok nmX6 0 21 6 rfl rfl (by decide) rfl rfl rfl rfl (Nat.le_of_ble_eq_true rfl) dX6_see_134 (fun H locs hw => ?_)
        have hw : g_W D A s [(o, .inr (6, [.int 0, u1, u2, u3, u4, u5, u6, u7, u8, u9, u10, u11, u12, u13, u14, u15, u16, u17, u18, u19, u20, .int (nI (cn + 1)), .ref s1, .ref s2, .ref s3, .ref s4, u26, u27, u28, u29, u30, u31, u32, u33, u34, u35])), (s1, .inl (E 0, 6, .inl (upd ga cn (nI n)))), (s2, .inl (E 0, 6, .inl (upd gb cn (nI w)))), (s3, .inl (E 0, 6, .inl (upd gc cn (nI v)))), (s4, .inl (E 0, 6, .inl (upd gd cn (nI b8))))] H locs := hw
        refine lv_aload_n hx hb dX6_see_137 rfl (lv_at hl 0 rfl) ?_
        refine g_get (TT := TX6) hc hw inX6_see_X6 0 21 6 rfl rfl (by decide) rfl rfl dX6_see_138 ?_
        exact g_iret hQ hc hw hr rfl rfl dX6_see_141
      exact J74   _ _ _ hw (lv_sub hl [0, 1, 2, 3, 4] rfl)
  · skip
    have n_33 : w = 0 := nf_neF rfl rfl (by omega) (by omega) c_33
    refine lv_lconst (v := 1) hx hb dX6_see_36 (by decide) ?_
    refine lv_goto (tgt := 54) hx hb dX6_see_37 (by decide) ?_
    refine g_cS (As := [.long ((nI v).toInt64), .long 0, .long 1]) (n := 3) (rest := []) (wc := []) (w1 := []) (bytes := cX6_in) (maxL := 6) (ret := (some .boolean)) hc hw hl.1 (m_X6_in (l := l) (D := D) (E := E) (T := T) ((nI v).toInt64) 0 1) gX6_see_X6_in rfl (by decide +kernel) (by rw [hR]; exact ⟨Nat.le_of_ble_eq_true rfl, Nat.le_of_ble_eq_true rfl⟩) [] (by decide) rfl [] rfl rfl rfl rfl (Nat.le_of_ble_eq_true rfl) dX6_see_54 ⟨Nat.zero_le _, Nat.zero_le _⟩ (fun H locs hw => ?_)
    have hw : g_W D A s [(o, .inr (6, [.int 0, u1, u2, u3, u4, u5, u6, u7, u8, u9, u10, u11, u12, u13, u14, u15, u16, u17, u18, u19, u20, .int (nI cn), .ref s1, .ref s2, .ref s3, .ref s4, u26, u27, u28, u29, u30, u31, u32, u33, u34, u35])), (s1, .inl (E 0, 6, .inl ga)), (s2, .inl (E 0, 6, .inl gb)), (s3, .inl (E 0, 6, .inl gc)), (s4, .inl (E 0, 6, .inl gd))] H locs := hw
    refine W.eq (congrArg (fun z => F0 m 57 ls (.int z :: [])) (show (b2i (inL ((nI v).toInt64) 0 1) : Int32) = 1 from (congrArg b2i (in_i (out_nf (n := v) (a := 0) (b := 1) (by omega) (by have h := hv9; rw [n_33] at h; exact h) (by decide)) (by decide) (by decide))))) ?_
    refine lv_if_eq (tgt := 71) hx hb dX6_see_57 (by decide) (fun c_57 => absurd c_57 (by decide)) (fun c_57 => ?_)
    refine lv_iload hx hb dX6_see_60 (lv_at hl 4 rfl) ?_
    refine lv_i2l hx hb dX6_see_62 rfl ?_
    refine lv_lconst (v := 0) hx hb dX6_see_63 (by decide) ?_
    refine lv_lconst (v := 1) hx hb dX6_see_64 (by decide) ?_
    refine g_cS (As := [.long ((nI b8).toInt64), .long 0, .long 1]) (n := 3) (rest := []) (wc := []) (w1 := []) (bytes := cX6_in) (maxL := 6) (ret := (some .boolean)) hc hw hl.1 (m_X6_in (l := l) (D := D) (E := E) (T := T) ((nI b8).toInt64) 0 1) gX6_see_X6_in rfl (by decide +kernel) (by rw [hR]; exact ⟨Nat.le_of_ble_eq_true rfl, Nat.le_of_ble_eq_true rfl⟩) [] (by decide) rfl [] rfl rfl rfl rfl (Nat.le_of_ble_eq_true rfl) dX6_see_65 ⟨Nat.zero_le _, Nat.zero_le _⟩ (fun H locs hw => ?_)
    have hw : g_W D A s [(o, .inr (6, [.int 0, u1, u2, u3, u4, u5, u6, u7, u8, u9, u10, u11, u12, u13, u14, u15, u16, u17, u18, u19, u20, .int (nI cn), .ref s1, .ref s2, .ref s3, .ref s4, u26, u27, u28, u29, u30, u31, u32, u33, u34, u35])), (s1, .inl (E 0, 6, .inl ga)), (s2, .inl (E 0, 6, .inl gb)), (s3, .inl (E 0, 6, .inl gc)), (s4, .inl (E 0, 6, .inl gd))] H locs := hw
    refine W.eq (congrArg (fun z => F0 m 68 ls (.int z :: [])) (show (b2i (inL ((nI b8).toInt64) 0 1) : Int32) = 1 from (congrArg b2i (in_i (out_nf (n := b8) (a := 0) (b := 1) (by omega) hb9 (by decide)) (by decide) (by decide))))) ?_
    refine lv_if_ne (tgt := 74) hx hb dX6_see_68 (by decide) (fun c_68 => ?_) (fun c_68 => absurd c_68 (by decide))
    have J74 : ∀ (H : Heap) (locs : List Loc) (ls : Array Slot), g_W D A s [(o, .inr (6, [.int 0, u1, u2, u3, u4, u5, u6, u7, u8, u9, u10, u11, u12, u13, u14, u15, u16, u17, u18, u19, u20, .int (nI cn), .ref s1, .ref s2, .ref s3, .ref s4, u26, u27, u28, u29, u30, u31, u32, u33, u34, u35])), (s1, .inl (E 0, 6, .inl ga)), (s2, .inl (E 0, 6, .inl gb)), (s3, .inl (E 0, 6, .inl gc)), (s4, .inl (E 0, 6, .inl gd))] H locs → lv_has ls 5 [(0, .ref o), (1, .int (nI n)), (2, .int (nI w)), (3, .int (nI v)), (4, .int (nI b8))] → W p l e R s m args below meth c H locs 0 0 Q (F0 m 74 ls []) := by
      intro   H locs ls hw hl
      refine lv_aload_n hx hb dX6_see_74 rfl (lv_at hl 0 rfl) ?_
      refine g_get (TT := TX6) hc hw inX6_see_X6 0 21 6 rfl rfl (by decide) rfl rfl dX6_see_75 ?_
      refine lv_bipush (v := 6) hx hb dX6_see_78 (by decide) ?_
      refine lv_icmp_ne (tgt := 86) hx hb dX6_see_80 (by decide) (fun c_80 => ?_) (fun c_80 => absurd c_80 (nI_ne (a := cn) (b := 6) (by omega) (by decide) (by omega)))
      refine lv_aload_n hx hb dX6_see_86 rfl (lv_at hl 0 rfl) ?_
      refine g_get (TT := TX6) hc hw inX6_see_X6 0 22 7 rfl rfl (by decide) rfl rfl dX6_see_87 ?_
      refine lv_aload_n hx hb dX6_see_90 rfl (lv_at hl 0 rfl) ?_
      refine g_get (TT := TX6) hc hw inX6_see_X6 0 21 6 rfl rfl (by decide) rfl rfl dX6_see_91 ?_
      refine lv_iload_n hx hb dX6_see_94 rfl (lv_at hl 1 rfl) ?_
      refine g_ist hc hw 1 cn rfl rfl (by omega) (by decide) dX6_see_95 (fun H locs hw => ?_)
      have hw : g_W D A s [(o, .inr (6, [.int 0, u1, u2, u3, u4, u5, u6, u7, u8, u9, u10, u11, u12, u13, u14, u15, u16, u17, u18, u19, u20, .int (nI cn), .ref s1, .ref s2, .ref s3, .ref s4, u26, u27, u28, u29, u30, u31, u32, u33, u34, u35])), (s1, .inl (E 0, 6, .inl (upd ga cn (nI n)))), (s2, .inl (E 0, 6, .inl gb)), (s3, .inl (E 0, 6, .inl gc)), (s4, .inl (E 0, 6, .inl gd))] H locs := hw
      refine lv_aload_n hx hb dX6_see_96 rfl (lv_at hl 0 rfl) ?_
      refine g_get (TT := TX6) hc hw inX6_see_X6 0 23 8 rfl rfl (by decide) rfl rfl dX6_see_97 ?_
      refine lv_aload_n hx hb dX6_see_100 rfl (lv_at hl 0 rfl) ?_
      refine g_get (TT := TX6) hc hw inX6_see_X6 0 21 6 rfl rfl (by decide) rfl rfl dX6_see_101 ?_
      refine lv_iload_n hx hb dX6_see_104 rfl (lv_at hl 2 rfl) ?_
      refine g_ist hc hw 2 cn rfl rfl (by omega) (by decide) dX6_see_105 (fun H locs hw => ?_)
      have hw : g_W D A s [(o, .inr (6, [.int 0, u1, u2, u3, u4, u5, u6, u7, u8, u9, u10, u11, u12, u13, u14, u15, u16, u17, u18, u19, u20, .int (nI cn), .ref s1, .ref s2, .ref s3, .ref s4, u26, u27, u28, u29, u30, u31, u32, u33, u34, u35])), (s1, .inl (E 0, 6, .inl (upd ga cn (nI n)))), (s2, .inl (E 0, 6, .inl (upd gb cn (nI w)))), (s3, .inl (E 0, 6, .inl gc)), (s4, .inl (E 0, 6, .inl gd))] H locs := hw
      refine lv_aload_n hx hb dX6_see_106 rfl (lv_at hl 0 rfl) ?_
      refine g_get (TT := TX6) hc hw inX6_see_X6 0 24 9 rfl rfl (by decide) rfl rfl dX6_see_107 ?_
      refine lv_aload_n hx hb dX6_see_110 rfl (lv_at hl 0 rfl) ?_
      refine g_get (TT := TX6) hc hw inX6_see_X6 0 21 6 rfl rfl (by decide) rfl rfl dX6_see_111 ?_
      refine lv_iload_n hx hb dX6_see_114 rfl (lv_at hl 3 rfl) ?_
      refine g_ist hc hw 3 cn rfl rfl (by omega) (by decide) dX6_see_115 (fun H locs hw => ?_)
      have hw : g_W D A s [(o, .inr (6, [.int 0, u1, u2, u3, u4, u5, u6, u7, u8, u9, u10, u11, u12, u13, u14, u15, u16, u17, u18, u19, u20, .int (nI cn), .ref s1, .ref s2, .ref s3, .ref s4, u26, u27, u28, u29, u30, u31, u32, u33, u34, u35])), (s1, .inl (E 0, 6, .inl (upd ga cn (nI n)))), (s2, .inl (E 0, 6, .inl (upd gb cn (nI w)))), (s3, .inl (E 0, 6, .inl (upd gc cn (nI v)))), (s4, .inl (E 0, 6, .inl gd))] H locs := hw
      refine lv_aload_n hx hb dX6_see_116 rfl (lv_at hl 0 rfl) ?_
      refine g_get (TT := TX6) hc hw inX6_see_X6 0 25 10 rfl rfl (by decide) rfl rfl dX6_see_117 ?_
      refine lv_aload_n hx hb dX6_see_120 rfl (lv_at hl 0 rfl) ?_
      refine g_get (TT := TX6) hc hw inX6_see_X6 0 21 6 rfl rfl (by decide) rfl rfl dX6_see_121 ?_
      refine lv_iload hx hb dX6_see_124 (lv_at hl 4 rfl) ?_
      refine g_ist hc hw 4 cn rfl rfl (by omega) (by decide) dX6_see_126 (fun H locs hw => ?_)
      have hw : g_W D A s [(o, .inr (6, [.int 0, u1, u2, u3, u4, u5, u6, u7, u8, u9, u10, u11, u12, u13, u14, u15, u16, u17, u18, u19, u20, .int (nI cn), .ref s1, .ref s2, .ref s3, .ref s4, u26, u27, u28, u29, u30, u31, u32, u33, u34, u35])), (s1, .inl (E 0, 6, .inl (upd ga cn (nI n)))), (s2, .inl (E 0, 6, .inl (upd gb cn (nI w)))), (s3, .inl (E 0, 6, .inl (upd gc cn (nI v)))), (s4, .inl (E 0, 6, .inl (upd gd cn (nI b8))))] H locs := hw
      refine lv_aload_n hx hb dX6_see_127 rfl (lv_at hl 0 rfl) ?_
      refine lv_dup hx hb dX6_see_128 rfl ?_
      refine g_get (TT := TX6) hc hw inX6_see_X6 0 21 6 rfl rfl (by decide) rfl rfl dX6_see_129 ?_
      refine lv_iconst (v := 1) hx hb dX6_see_132 (by decide) ?_
      refine lv_iadd hx hb dX6_see_133 ?_
      refine W.eq (congrArg (fun z => F0 m 134 ls (.int z :: [.ref o])) (show ((nI cn) + 1 : Int32) = nI (cn + 1) from (n_add rfl rfl))) ?_
      refine g_put (TT := TX6) hc hw inX6_see_X6 tyX6 tyX6_ok nmX6 0 21 6 rfl rfl (by decide) rfl rfl rfl rfl (Nat.le_of_ble_eq_true rfl) dX6_see_134 (fun H locs hw => ?_)
      have hw : g_W D A s [(o, .inr (6, [.int 0, u1, u2, u3, u4, u5, u6, u7, u8, u9, u10, u11, u12, u13, u14, u15, u16, u17, u18, u19, u20, .int (nI (cn + 1)), .ref s1, .ref s2, .ref s3, .ref s4, u26, u27, u28, u29, u30, u31, u32, u33, u34, u35])), (s1, .inl (E 0, 6, .inl (upd ga cn (nI n)))), (s2, .inl (E 0, 6, .inl (upd gb cn (nI w)))), (s3, .inl (E 0, 6, .inl (upd gc cn (nI v)))), (s4, .inl (E 0, 6, .inl (upd gd cn (nI b8))))] H locs := hw
      refine lv_aload_n hx hb dX6_see_137 rfl (lv_at hl 0 rfl) ?_
      refine g_get (TT := TX6) hc hw inX6_see_X6 0 21 6 rfl rfl (by decide) rfl rfl dX6_see_138 ?_
      exact g_iret hQ hc hw hr rfl rfl dX6_see_141
    exact J74   _ _ _ hw (lv_sub hl [0, 1, 2, 3, 4] rfl)
end P25
