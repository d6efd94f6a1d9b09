section P24
theorem in_out (v a b : Int32) : inL v.toInt64 a.toInt64 b.toInt64 = !outB v a b := by
  unfold inL outB
  rw [← decide_not]
  refine decide_eq_decide.mpr ?_
  rw [Int64.le_iff_toInt_le, Int64.le_iff_toInt_le, Int32.toInt_toInt64, Int32.toInt_toInt64, Int32.toInt_toInt64, Int32.lt_iff_toInt_lt, Int32.lt_iff_toInt_lt]
  omega
theorem in_o {v a b : Int32} {A B : Int64} (h : outB v a b = true) (ea : a.toInt64 = A) (eb : b.toInt64 = B) : inL v.toInt64 A B = false := by
  subst ea eb
  rw [in_out, h]
  rfl
theorem in_i {v a b : Int32} {A B : Int64} (h : outB v a b = false) (ea : a.toInt64 = A) (eb : b.toInt64 = B) : inL v.toInt64 A B = true := by
  subst ea eb
  rw [in_out, h]
  rfl
theorem in_e (v : Int32) {a b : Int32} {A B : Int64} (ea : a.toInt64 = A) (eb : b.toInt64 = B) : inL v.toInt64 A B = !outB v a b := by
  subst ea eb
  exact in_out v a b
theorem nw_0 {v : Int32} (c : ¬ b2i (inL v.toInt64 0 3) = 0) : b2i (outB v 0 3) = 0 := by
  have h := b2i_ne c
  rw [in_e v (a := 0) (b := 3) (by decide) (by decide)] at h
  rw [show outB v 0 3 = false by simpa using h]
  rfl
theorem nw_1 {v : Int32} (c : b2i (inL v.toInt64 0 3) = 0) : b2i (outB v 0 3) = 1 := by
  have h := b2i_eq c
  rw [in_e v (a := 0) (b := 3) (by decide) (by decide)] at h
  rw [show outB v 0 3 = true by simpa using h]
  rfl
theorem nI_ne {a b : Nat} (ha : a < 2 ^ 31) (hb : b < 2 ^ 31) (h : ¬ a = b) : ¬ nI a = nI b := fun q => h ((nI_eq ha hb).mp q)
theorem pt_ok {tt : Nat → Nat} {q a : Nat} (ha : a < 7) : ptP (tt (6 + 7 * q + a)) a (cwN tt (6 + 7 * q)) (cfN tt (6 + 7 * q)) ↔ okP tt (6 + 7 * q + a) := by
  rcases Nat.eq_zero_or_pos a with rfl | h
  · rw [Nat.add_zero]
    unfold ptP okP stP
    omega
  · unfold ptP okP stP fiP
    omega
/-- where the reading ends -/
def enN (tt : Nat → Nat) (len : Nat) : Nat := (fbN tt len).getD len
theorem en_all {tt : Nat → Nat} {len : Nat} (h : ∀ j, j < len → okB tt j = true) : enN tt len = len := by
  unfold enN
  rw [fb_none h]
  rfl
theorem en_bad {tt : Nat → Nat} {k len : Nat} (h : ∀ j, j < k → okB tt j = true) (hk : ¬ okP tt k) (hl : k < len) : enN tt len = k := by
  unfold enN
  rw [fb_some h (decide_eq_false hk) hl]
  rfl
theorem fb_lt {tt : Nat → Nat} : ∀ {a k : Nat}, fbN tt a = some k → k < a
  | 0, k, h => by simp [fbN] at h
  | a + 1, k, h => by
    unfold fbN at h
    cases e : fbN tt a with
    | some j =>
      rw [e] at h
      have := fb_lt e
      simp only [Option.some.injEq] at h
      omega
    | none =>
      rw [e] at h
      simp only at h
      split at h
      · simp at h
      · simp only [Option.some.injEq] at h
        omega
theorem en_9 {tt : Nat → Nat} {len : Nat} (hl9 : len ≤ 120) (h : ftF tt len = -9) : enN tt len = len := by
  unfold ftF at h
  unfold enN
  cases e : fbN tt len with
  | none => rfl
  | some k =>
    rw [e] at h
    simp only at h
    have hk := fb_lt e
    have q : (0 : Int32) ≤ nI k := nI_le (Nat.zero_le k) (by omega)
    rw [h] at q
    exact absurd q (by decide)
def rcS (tt : Nat → Nat) (m : Nat) : TS := (fun _ => FP.fconst0, seF tt, wtN tt (fun _ => 0) m, 0, 0, FP.fconst0, 0, 0, 0, 0, 0)
def rcP (tt : Nat → Nat) (e : Nat) : Nat → Int32 := if e < 6 then pgF iniS else pgF (rcS tt ((e - 6) / 7))
def rcW (tt : Nat → Nat) (e : Nat) : Nat := if e < 6 then 0 else cwN tt (6 + 7 * ((e - 6) / 7))
def rcF (tt : Nat → Nat) (e : Nat) : Nat := if e < 6 then 0 else cfN tt (6 + 7 * ((e - 6) / 7))
def rcG (tt : Nat → Nat) (g : Nat → Int32) (e : Nat) : Nat → Int32 := if e < 6 then g else flN tt g ((e - 6) / 7)
theorem rcW_0 {tt : Nat → Nat} {e : Nat} (h : e < 6) : rcW tt e = 0 := if_pos h
theorem rcF_0 {tt : Nat → Nat} {e : Nat} (h : e < 6) : rcF tt e = 0 := if_pos h
theorem rcP_0 {tt : Nat → Nat} {e : Nat} (h : e < 6) : rcP tt e = pgF iniS := if_pos h
theorem rcG_0 {tt : Nat → Nat} {g : Nat → Int32} {e : Nat} (h : e < 6) : rcG tt g e = g := if_pos h
theorem dv7 {q a : Nat} (h : a < 7) : (6 + 7 * q + a - 6) / 7 = q := by omega
theorem rcW_1 (tt : Nat → Nat) (q : Nat) {a : Nat} (h : a < 7) : rcW tt (6 + 7 * q + a) = cwN tt (6 + 7 * q) := by
  unfold rcW
  rw [if_neg (by omega), dv7 h]
theorem rcF_1 (tt : Nat → Nat) (q : Nat) {a : Nat} (h : a < 7) : rcF tt (6 + 7 * q + a) = cfN tt (6 + 7 * q) := by
  unfold rcF
  rw [if_neg (by omega), dv7 h]
theorem rcP_1 (tt : Nat → Nat) (q : Nat) {a : Nat} (h : a < 7) : rcP tt (6 + 7 * q + a) = pgF (rcS tt q) := by
  unfold rcP
  rw [if_neg (by omega), dv7 h]
theorem rcG_1 (tt : Nat → Nat) (g : Nat → Int32) (q : Nat) {a : Nat} (h : a < 7) : rcG tt g (6 + 7 * q + a) = flN tt g q := by
  unfold rcG
  rw [if_neg (by omega), dv7 h]
theorem rc_f5 (tt : Nat → Nat) (n i : Nat) : fl5 (rcS tt n) i = FP.fconst0 := by
  unfold fl5
  split <;> rfl
theorem rc_w {tt : Nat → Nat} {q : Nat} (h : tt (6 + 7 * q) = 119) : rcS tt (q + 1) = wW (rcS tt q) (rtP (wtN tt (fun _ => 0) q) tt (6 + 7 * q + 1) (cwN tt (6 + 7 * q)) 3) := by
  rw [wt_w h]
  rfl
theorem rc_f {tt : Nat → Nat} {q : Nat} (h : tt (6 + 7 * q) = 102) : rcS tt (q + 1) = rcS tt q := by
  unfold rcS
  rw [← wt_f h]
theorem pg_Wk (S : TS) (r k : Nat) (v : Int32) : upd (pgF S) (11 + 3 * r + k) v = pgF (wW S (upd (sW S) (r * 3 + k) v)) := by
  funext j
  match j with
  | 0 | 1 | 2 | 3 | 4 | 5 | 6 | 7 | 8 | 9 | 10 => exact upd_far (by omega)
  | j + 11 =>
    show upd (pgF S) (11 + 3 * r + k) v (j + 11) = upd (sW S) (r * 3 + k) v j
    unfold upd
    by_cases c : j = r * 3 + k
    · rw [if_pos (by omega), if_pos c]
    · rw [if_neg (by omega), if_neg c]
      rfl
theorem rc_r0 (tt : Nat → Nat) (q : Nat) : pgF (rcS tt q) = pgF (wW (rcS tt q) (rtP (wtN tt (fun _ => 0) q) tt (6 + 7 * q + 1) (cwN tt (6 + 7 * q)) 0)) := by
  rw [← rt_0]
  rfl
theorem rc_rs (tt : Nat → Nat) (q k : Nat) {v : Int32} (h : v = trF tt (6 + 7 * q + 1) k) : upd (pgF (wW (rcS tt q) (rtP (wtN tt (fun _ => 0) q) tt (6 + 7 * q + 1) (cwN tt (6 + 7 * q)) k))) (11 + 3 * cwN tt (6 + 7 * q) + k) v = pgF (wW (rcS tt q) (rtP (wtN tt (fun _ => 0) q) tt (6 + 7 * q + 1) (cwN tt (6 + 7 * q)) (k + 1))) := by
  rw [pg_Wk, ← rt_s _ _ _ _ _ h]
  rfl
theorem rc_00 (tt : Nat → Nat) : ∀ j, j < 29 → pgF (stS (stS (stS (stS iniS 0 (10 * (nI (tt 1) - 48) + nI (tt 2) - 48)) 1 (nI (tt 3) - 48)) 2 (nI (tt 4) - 48)) 3 (nI (tt 5) - 48)) j = pgF (rcS tt 0) j := by
  intro j _
  match j with
  | 0 | 1 | 2 | 3 | 4 | 5 | 6 | 8 | 9 | 10 => rfl
  | 7 =>
    show 10 * (nI (tt 1) - 48) + nI (tt 2) - 48 = dgF tt 1 * 10 + dgF tt 2
    unfold dgF
    rw [Int32.mul_comm, Int32.sub_eq_add_neg, Int32.sub_eq_add_neg (nI (tt 2)), Int32.add_assoc]
  | k + 11 => rfl
theorem ik_2 (kb : Nat → Int32) : cpI (fun _ => 0) kb 2 = upd (upd kb 0 0) 1 0 := by
  funext j
  unfold cpI upd
  rcases (show j = 0 ∨ j = 1 ∨ 2 ≤ j by omega) with rfl | rfl | h
  · rfl
  · rfl
  · rw [if_neg (by omega), if_neg (by omega), if_neg (by omega)]
theorem dX6_noWheel_0 : decode cX6_noWheel 0 = .ok (.iload_n 0, 1) := by decide +kernel
theorem dX6_noWheel_1 : decode cX6_noWheel 1 = .ok (.i2l, 1) := by decide +kernel
theorem dX6_noWheel_2 : decode cX6_noWheel 2 = .ok (.lconst 0, 1) := by decide +kernel
theorem dX6_noWheel_3 : decode cX6_noWheel 3 = .ok (.ldc2_w 92, 3) := by decide +kernel
theorem dX6_noWheel_6 : decode cX6_noWheel 6 = .ok (.invokestatic 94, 3) := by decide +kernel
theorem dX6_noWheel_9 : decode cX6_noWheel 9 = .ok (.ifCond .ne 7, 3) := by decide +kernel
theorem dX6_noWheel_12 : decode cX6_noWheel 12 = .ok (.iconst 1, 1) := by decide +kernel
theorem dX6_noWheel_13 : decode cX6_noWheel 13 = .ok (.goto 4, 3) := by decide +kernel
theorem dX6_noWheel_16 : decode cX6_noWheel 16 = .ok (.iconst 0, 1) := by decide +kernel
theorem dX6_noWheel_17 : decode cX6_noWheel 17 = .ok (.ireturn, 1) := by decide +kernel
set_option maxRecDepth 20000 in
theorem ggX6_noWheel_X6_in : GoodIn wsX6_noWheel wsX6_in := goodIn_r _ [5] rfl (by decide +kernel)
set_option maxRecDepth 20000 in
theorem gX6_noWheel_X6_in : GoodIn wsX6_noWheel (va_wsS RX6 94 yX6_in wsX6_in) := goodIn_app (goodIn_of _ (by decide +kernel)) ggX6_noWheel_X6_in
set_option maxRecDepth 100000 in
set_option maxHeartbeats 4000000 in
theorem m_X6_noWheel {l : Launch} {D : va_G} {E : Nat → ClassId} {T : Nat → Nat} (v : Int32)  : g_M l D E T yX6_noWheel wsX6_noWheel 1 25 [.int v] [] [] (some (.int (b2i (outB v 0 3)))) := by
  refine g_M.of (cc := cX6_noWheel) (nL := 1) (ret := (some .boolean)) (own := RX6) (lv := [(0, .int v)]) (by decide) rfl rfl (Nat.le_of_ble_eq_true rfl) rfl ?_
  intro p e R s m args below meth c A Q H locs ls hR hQ hc hr hw hl
  have hx := hc.1
  have hb := hc.2.1
  have hts := hc.2.2.2.1
  have hown := hc.2.2.2.2.1
  refine lv_iload_n hx hb dX6_noWheel_0 rfl (lv_at hl 0 rfl) ?_
  refine lv_i2l hx hb dX6_noWheel_1 rfl ?_
  refine lv_lconst (v := 0) hx hb dX6_noWheel_2 (by decide) ?_
  refine lv_ldc2 (v := 3) hx hb hown (hts _ (List.mem_of_getElem? (i := 1) rfl)) dX6_noWheel_3 ?_
  refine g_cS (As := [.long v.toInt64, .long 0, .long 3]) (n := 3) (rest := []) (wc := []) (w1 := []) (bytes := cX6_in) (maxL := 6) (ret := (some .boolean)) hc hw hl.1 (m_X6_in (l := l) (D := D) (E := E) (T := T) v.toInt64 0 3) gX6_noWheel_X6_in rfl (by decide +kernel) (by rw [hR]; exact ⟨Nat.le_of_ble_eq_true rfl, Nat.le_of_ble_eq_true rfl⟩) [] (by decide) rfl [] rfl rfl rfl rfl (Nat.le_of_ble_eq_true rfl) dX6_noWheel_6 ⟨Nat.zero_le _, Nat.zero_le _⟩ (fun H locs hw => ?_)
  have hw : g_W D A s [] H locs := hw
  refine lv_if_ne (tgt := 16) hx hb dX6_noWheel_9 (by decide) (fun c_9 => ?_) (fun c_9 => ?_)
  · skip
    have k_9 := b2i_ne c_9
    refine lv_iconst (v := 0) hx hb dX6_noWheel_16 (by decide) ?_
    exact g_zret hQ hc hw hr (by exact congrArg (fun z => some (Value.int z)) (nw_0 c_9)) (by first | rfl | (split <;> rfl) | exact g_nb _) rfl dX6_noWheel_17
  · skip
    have k_9 := b2i_eq c_9
    refine lv_iconst (v := 1) hx hb dX6_noWheel_12 (by decide) ?_
    refine lv_goto (tgt := 17) hx hb dX6_noWheel_13 (by decide) ?_
    exact g_zret hQ hc hw hr (by exact congrArg (fun z => some (Value.int z)) (nw_1 c_9)) (by first | rfl | (split <;> rfl) | exact g_nb _) rfl dX6_noWheel_17

theorem dX6_write_0 : decode cX6_write 0 = .ok (.aload_n 0, 1) := by decide +kernel
theorem dX6_write_1 : decode cX6_write 1 = .ok (.iconst 0, 1) := by decide +kernel
theorem dX6_write_2 : decode cX6_write 2 = .ok (.putfield 88, 3) := by decide +kernel
theorem dX6_write_5 : decode cX6_write 5 = .ok (.iload_n 1, 1) := by decide +kernel
theorem dX6_write_6 : decode cX6_write 6 = .ok (.i2l, 1) := by decide +kernel
theorem dX6_write_7 : decode cX6_write 7 = .ok (.lconst 0, 1) := by decide +kernel
theorem dX6_write_8 : decode cX6_write 8 = .ok (.ldc2_w 98, 3) := by decide +kernel
theorem dX6_write_11 : decode cX6_write 11 = .ok (.invokestatic 94, 3) := by decide +kernel
theorem dX6_write_14 : decode cX6_write 14 = .ok (.ifCond .ne 6, 3) := by decide +kernel
theorem dX6_write_17 : decode cX6_write 17 = .ok (.bipush (-2), 2) := by decide +kernel
theorem dX6_write_19 : decode cX6_write 19 = .ok (.ireturn, 1) := by decide +kernel
set_option maxRecDepth 20000 in
theorem ggX6_write_X6_in : GoodIn wsX6_write wsX6_in := goodIn_r _ [8] rfl (by decide +kernel)
set_option maxRecDepth 20000 in
theorem gX6_write_X6_in : GoodIn wsX6_write (va_wsS RX6 94 yX6_in wsX6_in) := goodIn_app (goodIn_of _ (by decide +kernel)) ggX6_write_X6_in
theorem inX6_write_X6 : ∀ w ∈ u_ws RX6 TX6 36, w ∈ wsX6_write := fun w h => List.mem_cons_of_mem _ (List.mem_append_right _ h)
set_option maxRecDepth 100000 in
set_option maxHeartbeats 4000000 in
theorem m_X6_write_out {l : Launch} {D : va_G} {E : Nat → ClassId} {T : Nat → Nat} (o : Nat) (u0 : Value) (u1 : Value) (u2 : Value) (u3 : Value) (u4 : Value) (u5 : Value) (u6 : Value) (u7 : Value) (u8 : Value) (u9 : Value) (u10 : Value) (u11 : Value) (u12 : Value) (u13 : Value) (u14 : Value) (u15 : Value) (u16 : Value) (u17 : Value) (u18 : Value) (u19 : Value) (u20 : Value) (u21 : Value) (u22 : Value) (u23 : Value) (u24 : Value) (u25 : Value) (u26 : Value) (u27 : Value) (u28 : Value) (u29 : Value) (u30 : Value) (u31 : Value) (u32 : Value) (u33 : Value) (u34 : Value) (u35 : Value) (v : Int32) (ho : outB v 0 255 = true) : g_M l D E T yX6_write wsX6_write 1 25 [.ref o, .int v] [(o, .inr (6, [u0, u1, u2, u3, u4, u5, u6, u7, u8, u9, u10, u11, u12, u13, u14, u15, u16, u17, u18, u19, u20, u21, u22, u23, u24, u25, u26, u27, u28, u29, u30, u31, u32, u33, u34, u35]))] [(o, .inr (6, [.int 0, u1, u2, u3, u4, u5, u6, u7, u8, u9, u10, u11, u12, u13, u14, u15, u16, u17, u18, u19, u20, u21, u22, u23, u24, u25, u26, u27, u28, u29, u30, u31, u32, u33, u34, u35]))] (some (.int (-2))) := by
  refine g_M.of (cc := cX6_write) (nL := 2) (ret := (some .int)) (own := RX6) (lv := [(0, .ref o), (1, .int v)]) (by decide) rfl rfl (Nat.le_of_ble_eq_true rfl) rfl ?_
  intro p e R s m args below meth c A Q H locs ls hR hQ hc hr hw hl
  have hx := hc.1
  have hb := hc.2.1
  have hts := hc.2.2.2.1
  have hown := hc.2.2.2.2.1
  refine lv_aload_n hx hb dX6_write_0 rfl (lv_at hl 0 rfl) ?_
  refine lv_iconst (v := 0) hx hb dX6_write_1 (by decide) ?_
  refine g_put (TT := TX6) hc hw inX6_write_X6 tyX6 tyX6_ok nmX6 0 0 1 rfl rfl (by decide) rfl rfl rfl rfl (Nat.le_of_ble_eq_true rfl) dX6_write_2 (fun H locs hw => ?_)
  have hw : g_W D A s [(o, .inr (6, [.int 0, u1, u2, u3, u4, u5, u6, u7, u8, u9, u10, u11, u12, u13, u14, u15, u16, u17, u18, u19, u20, u21, u22, u23, u24, u25, u26, u27, u28, u29, u30, u31, u32, u33, u34, u35]))] H locs := hw
  refine lv_iload_n hx hb dX6_write_5 rfl (lv_at hl 1 rfl) ?_
  refine lv_i2l hx hb dX6_write_6 rfl ?_
  refine lv_lconst (v := 0) hx hb dX6_write_7 (by decide) ?_
  refine lv_ldc2 (v := 255) hx hb hown (hts _ (List.mem_of_getElem? (i := 2) rfl)) dX6_write_8 ?_
  refine g_cS (As := [.long v.toInt64, .long 0, .long 255]) (n := 3) (rest := []) (wc := []) (w1 := []) (bytes := cX6_in) (maxL := 6) (ret := (some .boolean)) hc hw hl.1 (m_X6_in (l := l) (D := D) (E := E) (T := T) v.toInt64 0 255) gX6_write_X6_in rfl (by decide +kernel) (by rw [hR]; exact ⟨Nat.le_of_ble_eq_true rfl, Nat.le_of_ble_eq_true rfl⟩) [] (by decide) rfl [] rfl rfl rfl rfl (Nat.le_of_ble_eq_true rfl) dX6_write_11 ⟨Nat.zero_le _, Nat.zero_le _⟩ (fun H locs hw => ?_)
  have hw : g_W D A s [(o, .inr (6, [.int 0, u1, u2, u3, u4, u5, u6, u7, u8, u9, u10, u11, u12, u13, u14, u15, u16, u17, u18, u19, u20, u21, u22, u23, u24, u25, u26, u27, u28, u29, u30, u31, u32, u33, u34, u35]))] H locs := hw
  refine W.eq (congrArg (fun z => F0 m 14 ls (.int z :: [])) (show (b2i (inL v.toInt64 0 255) : Int32) = 0 from (congrArg b2i (in_o (a := 0) (b := 255) ho (by decide) (by decide))))) ?_
  refine lv_if_ne (tgt := 20) hx hb dX6_write_14 (by decide) (fun c_14 => absurd c_14 (by decide)) (fun c_14 => ?_)
  refine lv_bipush (v := (-2)) hx hb dX6_write_17 (by decide) ?_
  exact g_iret hQ hc hw hr rfl rfl dX6_write_19

theorem dX6_write_20 : decode cX6_write 20 = .ok (.aload_n 0, 1) := by decide +kernel
theorem dX6_write_21 : decode cX6_write 21 = .ok (.getfield 100, 3) := by decide +kernel
theorem dX6_write_24 : decode cX6_write 24 = .ok (.bipush 120, 2) := by decide +kernel
theorem dX6_write_26 : decode cX6_write 26 = .ok (.if_icmp .ne 6, 3) := by decide +kernel
theorem dX6_write_29 : decode cX6_write 29 = .ok (.bipush (-4), 2) := by decide +kernel
theorem dX6_write_31 : decode cX6_write 31 = .ok (.ireturn, 1) := by decide +kernel
set_option maxRecDepth 100000 in
set_option maxHeartbeats 4000000 in
theorem m_X6_write_full {l : Launch} {D : va_G} {E : Nat → ClassId} {T : Nat → Nat} (o : Nat) (tx : Nat) (len : Nat) (k : Nat) (u0 : Value) (u3 : Value) (u4 : Value) (u5 : Value) (u6 : Value) (u7 : Value) (u8 : Value) (u9 : Value) (u10 : Value) (u11 : Value) (u12 : Value) (u13 : Value) (u14 : Value) (u15 : Value) (u16 : Value) (u17 : Value) (u18 : Value) (u19 : Value) (u20 : Value) (u21 : Value) (u22 : Value) (u23 : Value) (u24 : Value) (u25 : Value) (u26 : Value) (u27 : Value) (u28 : Value) (u29 : Value) (u30 : Value) (u31 : Value) (u32 : Value) (u33 : Value) (u34 : Value) (u35 : Value) (tt : Nat → Nat) (hk : k ≤ 255) (hl9 : len = 120) : g_M l D E T yX6_write wsX6_write 1 25 [.ref o, .int (nI k)] [(o, .inr (6, [u0, .ref tx, .int (nI len), u3, u4, u5, u6, u7, u8, u9, u10, u11, u12, u13, u14, u15, u16, u17, u18, u19, u20, u21, u22, u23, u24, u25, u26, u27, u28, u29, u30, u31, u32, u33, u34, u35])), (tx, .inl (E 0, 120, .inl (txF tt)))] [(o, .inr (6, [.int 0, .ref tx, .int (nI len), u3, u4, u5, u6, u7, u8, u9, u10, u11, u12, u13, u14, u15, u16, u17, u18, u19, u20, u21, u22, u23, u24, u25, u26, u27, u28, u29, u30, u31, u32, u33, u34, u35])), (tx, .inl (E 0, 120, .inl (txF tt)))] (some (.int (-4))) := by
  refine g_M.of (cc := cX6_write) (nL := 2) (ret := (some .int)) (own := RX6) (lv := [(0, .ref o), (1, .int (nI k))]) (by decide) rfl rfl (Nat.le_of_ble_eq_true rfl) rfl ?_
  intro p e R s m args below meth c A Q H locs ls hR hQ hc hr hw hl
  have hx := hc.1
  have hb := hc.2.1
  have hts := hc.2.2.2.1
  have hown := hc.2.2.2.2.1
  refine lv_aload_n hx hb dX6_write_0 rfl (lv_at hl 0 rfl) ?_
  refine lv_iconst (v := 0) hx hb dX6_write_1 (by decide) ?_
  refine g_put (TT := TX6) hc hw inX6_write_X6 tyX6 tyX6_ok nmX6 0 0 1 rfl rfl (by decide) rfl rfl rfl rfl (Nat.le_of_ble_eq_true rfl) dX6_write_2 (fun H locs hw => ?_)
  have hw : g_W D A s [(o, .inr (6, [.int 0, .ref tx, .int (nI len), u3, u4, u5, u6, u7, u8, u9, u10, u11, u12, u13, u14, u15, u16, u17, u18, u19, u20, u21, u22, u23, u24, u25, u26, u27, u28, u29, u30, u31, u32, u33, u34, u35])), (tx, .inl (E 0, 120, .inl (txF tt)))] H locs := hw
  refine lv_iload_n hx hb dX6_write_5 rfl (lv_at hl 1 rfl) ?_
  refine lv_i2l hx hb dX6_write_6 rfl ?_
  refine lv_lconst (v := 0) hx hb dX6_write_7 (by decide) ?_
  refine lv_ldc2 (v := 255) hx hb hown (hts _ (List.mem_of_getElem? (i := 2) rfl)) dX6_write_8 ?_
  refine g_cS (As := [.long ((nI k).toInt64), .long 0, .long 255]) (n := 3) (rest := []) (wc := []) (w1 := []) (bytes := cX6_in) (maxL := 6) (ret := (some .boolean)) hc hw hl.1 (m_X6_in (l := l) (D := D) (E := E) (T := T) ((nI k).toInt64) 0 255) gX6_write_X6_in rfl (by decide +kernel) (by rw [hR]; exact ⟨Nat.le_of_ble_eq_true rfl, Nat.le_of_ble_eq_true rfl⟩) [] (by decide) rfl [] rfl rfl rfl rfl (Nat.le_of_ble_eq_true rfl) dX6_write_11 ⟨Nat.zero_le _, Nat.zero_le _⟩ (fun H locs hw => ?_)
  have hw : g_W D A s [(o, .inr (6, [.int 0, .ref tx, .int (nI len), u3, u4, u5, u6, u7, u8, u9, u10, u11, u12, u13, u14, u15, u16, u17, u18, u19, u20, u21, u22, u23, u24, u25, u26, u27, u28, u29, u30, u31, u32, u33, u34, u35])), (tx, .inl (E 0, 120, .inl (txF tt)))] H locs := hw
  refine W.eq (congrArg (fun z => F0 m 14 ls (.int z :: [])) (show (b2i (inL ((nI k).toInt64) 0 255) : Int32) = 1 from (congrArg b2i (in_i (out_nf (n := k) (a := 0) (b := 255) (by omega) hk (by decide)) (by decide) (by decide))))) ?_
  refine lv_if_ne (tgt := 20) hx hb dX6_write_14 (by decide) (fun c_14 => ?_) (fun c_14 => absurd c_14 (by decide))
  refine lv_aload_n hx hb dX6_write_20 rfl (lv_at hl 0 rfl) ?_
  refine g_get (TT := TX6) hc hw inX6_write_X6 0 2 3 rfl rfl (by decide) rfl rfl dX6_write_21 ?_
  refine lv_bipush (v := 120) hx hb dX6_write_24 (by decide) ?_
  refine lv_icmp_ne (tgt := 32) hx hb dX6_write_26 (by decide) (fun c_26 => absurd (congrArg nI hl9) c_26) (fun c_26 => ?_)
  refine lv_bipush (v := (-4)) hx hb dX6_write_29 (by decide) ?_
  exact g_iret hQ hc hw hr rfl rfl dX6_write_31

theorem dX6_write_32 : decode cX6_write 32 = .ok (.aload_n 0, 1) := by decide +kernel
theorem dX6_write_33 : decode cX6_write 33 = .ok (.getfield 7, 3) := by decide +kernel
theorem dX6_write_36 : decode cX6_write 36 = .ok (.aload_n 0, 1) := by decide +kernel
theorem dX6_write_37 : decode cX6_write 37 = .ok (.getfield 100, 3) := by decide +kernel
theorem dX6_write_40 : decode cX6_write 40 = .ok (.iload_n 1, 1) := by decide +kernel
theorem dX6_write_41 : decode cX6_write 41 = .ok (.iastore, 1) := by decide +kernel
theorem dX6_write_42 : decode cX6_write 42 = .ok (.aload_n 0, 1) := by decide +kernel
theorem dX6_write_43 : decode cX6_write 43 = .ok (.dup, 1) := by decide +kernel
theorem dX6_write_44 : decode cX6_write 44 = .ok (.getfield 100, 3) := by decide +kernel
theorem dX6_write_47 : decode cX6_write 47 = .ok (.iconst 1, 1) := by decide +kernel
theorem dX6_write_48 : decode cX6_write 48 = .ok (.iadd, 1) := by decide +kernel
theorem dX6_write_49 : decode cX6_write 49 = .ok (.putfield 100, 3) := by decide +kernel
theorem dX6_write_52 : decode cX6_write 52 = .ok (.aload_n 0, 1) := by decide +kernel
theorem dX6_write_53 : decode cX6_write 53 = .ok (.getfield 100, 3) := by decide +kernel
theorem dX6_write_56 : decode cX6_write 56 = .ok (.ireturn, 1) := by decide +kernel
set_option maxRecDepth 100000 in
set_option maxHeartbeats 4000000 in
theorem m_X6_write {l : Launch} {D : va_G} {E : Nat → ClassId} {T : Nat → Nat} (o : Nat) (tx : Nat) (len : Nat) (k : Nat) (u0 : Value) (u3 : Value) (u4 : Value) (u5 : Value) (u6 : Value) (u7 : Value) (u8 : Value) (u9 : Value) (u10 : Value) (u11 : Value) (u12 : Value) (u13 : Value) (u14 : Value) (u15 : Value) (u16 : Value) (u17 : Value) (u18 : Value) (u19 : Value) (u20 : Value) (u21 : Value) (u22 : Value) (u23 : Value) (u24 : Value) (u25 : Value) (u26 : Value) (u27 : Value) (u28 : Value) (u29 : Value) (u30 : Value) (u31 : Value) (u32 : Value) (u33 : Value) (u34 : Value) (u35 : Value) (tt : Nat → Nat) (hk : k ≤ 255) (hl9 : len < 120) : g_M l D E T yX6_write wsX6_write 1 25 [.ref o, .int (nI k)] [(o, .inr (6, [u0, .ref tx, .int (nI len), u3, u4, u5, u6, u7, u8, u9, u10, u11, u12, u13, u14, u15, u16, u17, u18, u19, u20, u21, u22, u23, u24, u25, u26, u27, u28, u29, u30, u31, u32, u33, u34, u35])), (tx, .inl (E 0, 120, .inl (txF tt)))] [(o, .inr (6, [.int 0, .ref tx, .int (nI (len + 1)), u3, u4, u5, u6, u7, u8, u9, u10, u11, u12, u13, u14, u15, u16, u17, u18, u19, u20, u21, u22, u23, u24, u25, u26, u27, u28, u29, u30, u31, u32, u33, u34, u35])), (tx, .inl (E 0, 120, .inl (txF (tU tt len k))))] (some (.int (nI (len + 1)))) := by
  refine g_M.of (cc := cX6_write) (nL := 2) (ret := (some .int)) (own := RX6) (lv := [(0, .ref o), (1, .int (nI k))]) (by decide) rfl rfl (Nat.le_of_ble_eq_true rfl) rfl ?_
  intro p e R s m args below meth c A Q H locs ls hR hQ hc hr hw hl
  have hx := hc.1
  have hb := hc.2.1
  have hts := hc.2.2.2.1
  have hown := hc.2.2.2.2.1
  refine lv_aload_n hx hb dX6_write_0 rfl (lv_at hl 0 rfl) ?_
  refine lv_iconst (v := 0) hx hb dX6_write_1 (by decide) ?_
  refine g_put (TT := TX6) hc hw inX6_write_X6 tyX6 tyX6_ok nmX6 0 0 1 rfl rfl (by decide) rfl rfl rfl rfl (Nat.le_of_ble_eq_true rfl) dX6_write_2 (fun H locs hw => ?_)
  have hw : g_W D A s [(o, .inr (6, [.int 0, .ref tx, .int (nI len), u3, u4, u5, u6, u7, u8, u9, u10, u11, u12, u13, u14, u15, u16, u17, u18, u19, u20, u21, u22, u23, u24, u25, u26, u27, u28, u29, u30, u31, u32, u33, u34, u35])), (tx, .inl (E 0, 120, .inl (txF tt)))] H locs := hw
  refine lv_iload_n hx hb dX6_write_5 rfl (lv_at hl 1 rfl) ?_
  refine lv_i2l hx hb dX6_write_6 rfl ?_
  refine lv_lconst (v := 0) hx hb dX6_write_7 (by decide) ?_
  refine lv_ldc2 (v := 255) hx hb hown (hts _ (List.mem_of_getElem? (i := 2) rfl)) dX6_write_8 ?_
  refine g_cS (As := [.long ((nI k).toInt64), .long 0, .long 255]) (n := 3) (rest := []) (wc := []) (w1 := []) (bytes := cX6_in) (maxL := 6) (ret := (some .boolean)) hc hw hl.1 (m_X6_in (l := l) (D := D) (E := E) (T := T) ((nI k).toInt64) 0 255) gX6_write_X6_in rfl (by decide +kernel) (by rw [hR]; exact ⟨Nat.le_of_ble_eq_true rfl, Nat.le_of_ble_eq_true rfl⟩) [] (by decide) rfl [] rfl rfl rfl rfl (Nat.le_of_ble_eq_true rfl) dX6_write_11 ⟨Nat.zero_le _, Nat.zero_le _⟩ (fun H locs hw => ?_)
  have hw : g_W D A s [(o, .inr (6, [.int 0, .ref tx, .int (nI len), u3, u4, u5, u6, u7, u8, u9, u10, u11, u12, u13, u14, u15, u16, u17, u18, u19, u20, u21, u22, u23, u24, u25, u26, u27, u28, u29, u30, u31, u32, u33, u34, u35])), (tx, .inl (E 0, 120, .inl (txF tt)))] H locs := hw
  refine W.eq (congrArg (fun z => F0 m 14 ls (.int z :: [])) (show (b2i (inL ((nI k).toInt64) 0 255) : Int32) = 1 from (congrArg b2i (in_i (out_nf (n := k) (a := 0) (b := 255) (by omega) hk (by decide)) (by decide) (by decide))))) ?_
  refine lv_if_ne (tgt := 20) hx hb dX6_write_14 (by decide) (fun c_14 => ?_) (fun c_14 => absurd c_14 (by decide))
  refine lv_aload_n hx hb dX6_write_20 rfl (lv_at hl 0 rfl) ?_
  refine g_get (TT := TX6) hc hw inX6_write_X6 0 2 3 rfl rfl (by decide) rfl rfl dX6_write_21 ?_
  refine lv_bipush (v := 120) hx hb dX6_write_24 (by decide) ?_
  refine lv_icmp_ne (tgt := 32) hx hb dX6_write_26 (by decide) (fun c_26 => ?_) (fun c_26 => absurd c_26 (nI_ne (a := len) (b := 120) (by omega) (by decide) (by omega)))
  refine lv_aload_n hx hb dX6_write_32 rfl (lv_at hl 0 rfl) ?_
  refine g_get (TT := TX6) hc hw inX6_write_X6 0 1 4 rfl rfl (by decide) rfl rfl dX6_write_33 ?_
  refine lv_aload_n hx hb dX6_write_36 rfl (lv_at hl 0 rfl) ?_
  refine g_get (TT := TX6) hc hw inX6_write_X6 0 2 3 rfl rfl (by decide) rfl rfl dX6_write_37 ?_
  refine lv_iload_n hx hb dX6_write_40 rfl (lv_at hl 1 rfl) ?_
  refine g_ist hc hw 1 len rfl rfl (by omega) (by decide) dX6_write_41 (fun H locs hw => ?_)
  have hw : g_W D A s [(o, .inr (6, [.int 0, .ref tx, .int (nI len), u3, u4, u5, u6, u7, u8, u9, u10, u11, u12, u13, u14, u15, u16, u17, u18, u19, u20, u21, u22, u23, u24, u25, u26, u27, u28, u29, u30, u31, u32, u33, u34, u35])), (tx, .inl (E 0, 120, .inl (upd (txF tt) len (nI k))))] H locs := hw
  rw [tx_U] at hw
  have hw : g_W D A s [(o, .inr (6, [.int 0, .ref tx, .int (nI len), u3, u4, u5, u6, u7, u8, u9, u10, u11, u12, u13, u14, u15, u16, u17, u18, u19, u20, u21, u22, u23, u24, u25, u26, u27, u28, u29, u30, u31, u32, u33, u34, u35])), (tx, .inl (E 0, 120, .inl (txF (tU tt len k))))] H locs := hw
  refine lv_aload_n hx hb dX6_write_42 rfl (lv_at hl 0 rfl) ?_
  refine lv_dup hx hb dX6_write_43 rfl ?_
  refine g_get (TT := TX6) hc hw inX6_write_X6 0 2 3 rfl rfl (by decide) rfl rfl dX6_write_44 ?_
  refine lv_iconst (v := 1) hx hb dX6_write_47 (by decide) ?_
  refine lv_iadd hx hb dX6_write_48 ?_
  refine W.eq (congrArg (fun z => F0 m 49 ls (.int z :: [.ref o])) (show ((nI len) + 1 : Int32) = nI (len + 1) from (n_add rfl rfl))) ?_
  refine g_put (TT := TX6) hc hw inX6_write_X6 tyX6 tyX6_ok nmX6 0 2 3 rfl rfl (by decide) rfl rfl rfl rfl (Nat.le_of_ble_eq_true rfl) dX6_write_49 (fun H locs hw => ?_)
  have hw : g_W D A s [(o, .inr (6, [.int 0, .ref tx, .int (nI (len + 1)), u3, u4, u5, u6, u7, u8, u9, u10, u11, u12, u13, u14, u15, u16, u17, u18, u19, u20, u21, u22, u23, u24, u25, u26, u27, u28, u29, u30, u31, u32, u33, u34, u35])), (tx, .inl (E 0, 120, .inl (txF (tU tt len k))))] H locs := hw
  refine lv_aload_n hx hb dX6_write_52 rfl (lv_at hl 0 rfl) ?_
  refine g_get (TT := TX6) hc hw inX6_write_X6 0 2 3 rfl rfl (by decide) rfl rfl dX6_write_53 ?_
  exact g_iret hQ hc hw hr rfl rfl dX6_write_56

theorem dX6_wipe_0 : decode cX6_wipe 0 = .ok (.aload_n 0, 1) := by decide +kernel
theorem dX6_wipe_1 : decode cX6_wipe 1 = .ok (.iconst 0, 1) := by decide +kernel
theorem dX6_wipe_2 : decode cX6_wipe 2 = .ok (.putfield 88, 3) := by decide +kernel
theorem dX6_wipe_5 : decode cX6_wipe 5 = .ok (.aload_n 0, 1) := by decide +kernel
theorem dX6_wipe_6 : decode cX6_wipe 6 = .ok (.getfield 100, 3) := by decide +kernel
theorem dX6_wipe_9 : decode cX6_wipe 9 = .ok (.istore_n 1, 1) := by decide +kernel
theorem dX6_wipe_10 : decode cX6_wipe 10 = .ok (.aload_n 0, 1) := by decide +kernel
theorem dX6_wipe_11 : decode cX6_wipe 11 = .ok (.iconst 0, 1) := by decide +kernel
theorem dX6_wipe_12 : decode cX6_wipe 12 = .ok (.putfield 100, 3) := by decide +kernel
theorem dX6_wipe_15 : decode cX6_wipe 15 = .ok (.iload_n 1, 1) := by decide +kernel
theorem dX6_wipe_16 : decode cX6_wipe 16 = .ok (.ireturn, 1) := by decide +kernel
theorem inX6_wipe_X6 : ∀ w ∈ u_ws RX6 TX6 36, w ∈ wsX6_wipe := fun w h => List.mem_cons_of_mem _ (List.mem_append_right _ h)
set_option maxRecDepth 100000 in
set_option maxHeartbeats 4000000 in
theorem m_X6_wipe {l : Launch} {D : va_G} {E : Nat → ClassId} {T : Nat → Nat} (o : Nat) (len : Nat) (u0 : Value) (u1 : Value) (u3 : Value) (u4 : Value) (u5 : Value) (u6 : Value) (u7 : Value) (u8 : Value) (u9 : Value) (u10 : Value) (u11 : Value) (u12 : Value) (u13 : Value) (u14 : Value) (u15 : Value) (u16 : Value) (u17 : Value) (u18 : Value) (u19 : Value) (u20 : Value) (u21 : Value) (u22 : Value) (u23 : Value) (u24 : Value) (u25 : Value) (u26 : Value) (u27 : Value) (u28 : Value) (u29 : Value) (u30 : Value) (u31 : Value) (u32 : Value) (u33 : Value) (u34 : Value) (u35 : Value)  : g_M l D E T yX6_wipe wsX6_wipe 0 0 [.ref o] [(o, .inr (6, [u0, u1, .int (nI len), u3, u4, u5, u6, u7, u8, u9, u10, u11, u12, u13, u14, u15, u16, u17, u18, u19, u20, u21, u22, u23, u24, u25, u26, u27, u28, u29, u30, u31, u32, u33, u34, u35]))] [(o, .inr (6, [.int 0, u1, .int 0, u3, u4, u5, u6, u7, u8, u9, u10, u11, u12, u13, u14, u15, u16, u17, u18, u19, u20, u21, u22, u23, u24, u25, u26, u27, u28, u29, u30, u31, u32, u33, u34, u35]))] (some (.int (nI len))) := by
  refine g_M.of (cc := cX6_wipe) (nL := 2) (ret := (some .int)) (own := RX6) (lv := [(0, .ref o)]) (by decide) rfl rfl (Nat.le_of_ble_eq_true rfl) rfl ?_
  intro p e R s m args below meth c A Q H locs ls hR hQ hc hr hw hl
  have hx := hc.1
  have hb := hc.2.1
  have hts := hc.2.2.2.1
  have hown := hc.2.2.2.2.1
  refine lv_aload_n hx hb dX6_wipe_0 rfl (lv_at hl 0 rfl) ?_
  refine lv_iconst (v := 0) hx hb dX6_wipe_1 (by decide) ?_
  refine g_put (TT := TX6) hc hw inX6_wipe_X6 tyX6 tyX6_ok nmX6 0 0 1 rfl rfl (by decide) rfl rfl rfl rfl (Nat.le_of_ble_eq_true rfl) dX6_wipe_2 (fun H locs hw => ?_)
  have hw : g_W D A s [(o, .inr (6, [.int 0, u1, .int (nI len), u3, u4, u5, u6, u7, u8, u9, u10, u11, u12, u13, u14, u15, u16, u17, u18, u19, u20, u21, u22, u23, u24, u25, u26, u27, u28, u29, u30, u31, u32, u33, u34, u35]))] H locs := hw
  refine lv_aload_n hx hb dX6_wipe_5 rfl (lv_at hl 0 rfl) ?_
  refine g_get (TT := TX6) hc hw inX6_wipe_X6 0 2 2 rfl rfl (by decide) rfl rfl dX6_wipe_6 ?_
  refine lv_istore_n (lv' := [(1, .int (nI len)), (0, .ref o)]) hx hb dX6_wipe_9 rfl hl (by decide) rfl (fun ls hl => ?_)
  refine lv_aload_n hx hb dX6_wipe_10 rfl (lv_at hl 1 rfl) ?_
  refine lv_iconst (v := 0) hx hb dX6_wipe_11 (by decide) ?_
  refine g_put (TT := TX6) hc hw inX6_wipe_X6 tyX6 tyX6_ok nmX6 0 2 2 rfl rfl (by decide) rfl rfl rfl rfl (Nat.le_of_ble_eq_true rfl) dX6_wipe_12 (fun H locs hw => ?_)
  have hw : g_W D A s [(o, .inr (6, [.int 0, u1, .int 0, u3, u4, u5, u6, u7, u8, u9, u10, u11, u12, u13, u14, u15, u16, u17, u18, u19, u20, u21, u22, u23, u24, u25, u26, u27, u28, u29, u30, u31, u32, u33, u34, u35]))] H locs := hw
  refine lv_iload_n hx hb dX6_wipe_15 rfl (lv_at hl 0 rfl) ?_
  exact g_iret hQ hc hw hr rfl rfl dX6_wipe_16

theorem dX6_readCraft_0 : decode cX6_readCraft 0 = .ok (.aload_n 0, 1) := by decide +kernel
theorem dX6_readCraft_1 : decode cX6_readCraft 1 = .ok (.getfield 22, 3) := by decide +kernel
theorem dX6_readCraft_4 : decode cX6_readCraft 4 = .ok (.invokestatic 84, 3) := by decide +kernel
theorem dX6_readCraft_7 : decode cX6_readCraft 7 = .ok (.aload_n 0, 1) := by decide +kernel
theorem dX6_readCraft_8 : decode cX6_readCraft 8 = .ok (.iconst 0, 1) := by decide +kernel
theorem dX6_readCraft_9 : decode cX6_readCraft 9 = .ok (.putfield 109, 3) := by decide +kernel
theorem dX6_readCraft_12 : decode cX6_readCraft 12 = .ok (.aload_n 0, 1) := by decide +kernel
theorem dX6_readCraft_13 : decode cX6_readCraft 13 = .ok (.iconst 0, 1) := by decide +kernel
theorem dX6_readCraft_14 : decode cX6_readCraft 14 = .ok (.putfield 112, 3) := by decide +kernel
theorem dX6_readCraft_17 : decode cX6_readCraft 17 = .ok (.iconst 0, 1) := by decide +kernel
theorem dX6_readCraft_18 : decode cX6_readCraft 18 = .ok (.istore_n 1, 1) := by decide +kernel
theorem dX6_readCraft_19 : decode cX6_readCraft 19 = .ok (.iload_n 1, 1) := by decide +kernel
theorem dX6_readCraft_20 : decode cX6_readCraft 20 = .ok (.bipush 6, 2) := by decide +kernel
theorem dX6_readCraft_22 : decode cX6_readCraft 22 = .ok (.if_icmp .ge 27, 3) := by decide +kernel
theorem dX6_readCraft_25 : decode cX6_readCraft 25 = .ok (.iload_n 1, 1) := by decide +kernel
theorem dX6_readCraft_26 : decode cX6_readCraft 26 = .ok (.aload_n 0, 1) := by decide +kernel
theorem dX6_readCraft_27 : decode cX6_readCraft 27 = .ok (.getfield 100, 3) := by decide +kernel
theorem dX6_readCraft_30 : decode cX6_readCraft 30 = .ok (.if_icmp .eq 11, 3) := by decide +kernel
theorem dX6_readCraft_33 : decode cX6_readCraft 33 = .ok (.aload_n 0, 1) := by decide +kernel
theorem dX6_readCraft_34 : decode cX6_readCraft 34 = .ok (.iload_n 1, 1) := by decide +kernel
theorem dX6_readCraft_35 : decode cX6_readCraft 35 = .ok (.invokevirtual 115, 3) := by decide +kernel
theorem dX6_readCraft_38 : decode cX6_readCraft 38 = .ok (.ifCond .ne 5, 3) := by decide +kernel
theorem dX6_readCraft_41 : decode cX6_readCraft 41 = .ok (.iload_n 1, 1) := by decide +kernel
theorem dX6_readCraft_42 : decode cX6_readCraft 42 = .ok (.ireturn, 1) := by decide +kernel
theorem dX6_readCraft_43 : decode cX6_readCraft 43 = .ok (.iinc 1 1, 3) := by decide +kernel
theorem dX6_readCraft_46 : decode cX6_readCraft 46 = .ok (.goto (-27), 3) := by decide +kernel
theorem dX6_readCraft_49 : decode cX6_readCraft 49 = .ok (.aload_n 0, 1) := by decide +kernel
theorem dX6_readCraft_50 : decode cX6_readCraft 50 = .ok (.getfield 22, 3) := by decide +kernel
theorem dX6_readCraft_53 : decode cX6_readCraft 53 = .ok (.bipush 7, 2) := by decide +kernel
theorem dX6_readCraft_55 : decode cX6_readCraft 55 = .ok (.bipush 10, 2) := by decide +kernel
theorem dX6_readCraft_57 : decode cX6_readCraft 57 = .ok (.aload_n 0, 1) := by decide +kernel
theorem dX6_readCraft_58 : decode cX6_readCraft 58 = .ok (.getfield 7, 3) := by decide +kernel
theorem dX6_readCraft_61 : decode cX6_readCraft 61 = .ok (.iconst 1, 1) := by decide +kernel
theorem dX6_readCraft_62 : decode cX6_readCraft 62 = .ok (.iaload, 1) := by decide +kernel
theorem dX6_readCraft_63 : decode cX6_readCraft 63 = .ok (.bipush 48, 2) := by decide +kernel
theorem dX6_readCraft_65 : decode cX6_readCraft 65 = .ok (.isub, 1) := by decide +kernel
theorem dX6_readCraft_66 : decode cX6_readCraft 66 = .ok (.imul, 1) := by decide +kernel
theorem dX6_readCraft_67 : decode cX6_readCraft 67 = .ok (.aload_n 0, 1) := by decide +kernel
theorem dX6_readCraft_68 : decode cX6_readCraft 68 = .ok (.getfield 7, 3) := by decide +kernel
theorem dX6_readCraft_71 : decode cX6_readCraft 71 = .ok (.iconst 2, 1) := by decide +kernel
theorem dX6_readCraft_72 : decode cX6_readCraft 72 = .ok (.iaload, 1) := by decide +kernel
theorem dX6_readCraft_73 : decode cX6_readCraft 73 = .ok (.iadd, 1) := by decide +kernel
theorem dX6_readCraft_74 : decode cX6_readCraft 74 = .ok (.bipush 48, 2) := by decide +kernel
theorem dX6_readCraft_76 : decode cX6_readCraft 76 = .ok (.isub, 1) := by decide +kernel
theorem dX6_readCraft_77 : decode cX6_readCraft 77 = .ok (.iastore, 1) := by decide +kernel
theorem dX6_readCraft_78 : decode cX6_readCraft 78 = .ok (.aload_n 0, 1) := by decide +kernel
theorem dX6_readCraft_79 : decode cX6_readCraft 79 = .ok (.getfield 22, 3) := by decide +kernel
theorem dX6_readCraft_82 : decode cX6_readCraft 82 = .ok (.bipush 8, 2) := by decide +kernel
theorem dX6_readCraft_84 : decode cX6_readCraft 84 = .ok (.aload_n 0, 1) := by decide +kernel
theorem dX6_readCraft_85 : decode cX6_readCraft 85 = .ok (.getfield 7, 3) := by decide +kernel
theorem dX6_readCraft_88 : decode cX6_readCraft 88 = .ok (.iconst 3, 1) := by decide +kernel
theorem dX6_readCraft_89 : decode cX6_readCraft 89 = .ok (.iaload, 1) := by decide +kernel
theorem dX6_readCraft_90 : decode cX6_readCraft 90 = .ok (.bipush 48, 2) := by decide +kernel
theorem dX6_readCraft_92 : decode cX6_readCraft 92 = .ok (.isub, 1) := by decide +kernel
theorem dX6_readCraft_93 : decode cX6_readCraft 93 = .ok (.iastore, 1) := by decide +kernel
theorem dX6_readCraft_94 : decode cX6_readCraft 94 = .ok (.aload_n 0, 1) := by decide +kernel
theorem dX6_readCraft_95 : decode cX6_readCraft 95 = .ok (.getfield 22, 3) := by decide +kernel
theorem dX6_readCraft_98 : decode cX6_readCraft 98 = .ok (.bipush 9, 2) := by decide +kernel
theorem dX6_readCraft_100 : decode cX6_readCraft 100 = .ok (.aload_n 0, 1) := by decide +kernel
theorem dX6_readCraft_101 : decode cX6_readCraft 101 = .ok (.getfield 7, 3) := by decide +kernel
theorem dX6_readCraft_104 : decode cX6_readCraft 104 = .ok (.iconst 4, 1) := by decide +kernel
theorem dX6_readCraft_105 : decode cX6_readCraft 105 = .ok (.iaload, 1) := by decide +kernel
theorem dX6_readCraft_106 : decode cX6_readCraft 106 = .ok (.bipush 48, 2) := by decide +kernel
theorem dX6_readCraft_108 : decode cX6_readCraft 108 = .ok (.isub, 1) := by decide +kernel
theorem dX6_readCraft_109 : decode cX6_readCraft 109 = .ok (.iastore, 1) := by decide +kernel
theorem dX6_readCraft_110 : decode cX6_readCraft 110 = .ok (.aload_n 0, 1) := by decide +kernel
theorem dX6_readCraft_111 : decode cX6_readCraft 111 = .ok (.getfield 22, 3) := by decide +kernel
theorem dX6_readCraft_114 : decode cX6_readCraft 114 = .ok (.bipush 10, 2) := by decide +kernel
theorem dX6_readCraft_116 : decode cX6_readCraft 116 = .ok (.aload_n 0, 1) := by decide +kernel
theorem dX6_readCraft_117 : decode cX6_readCraft 117 = .ok (.getfield 7, 3) := by decide +kernel
theorem dX6_readCraft_120 : decode cX6_readCraft 120 = .ok (.iconst 5, 1) := by decide +kernel
theorem dX6_readCraft_121 : decode cX6_readCraft 121 = .ok (.iaload, 1) := by decide +kernel
theorem dX6_readCraft_122 : decode cX6_readCraft 122 = .ok (.bipush 48, 2) := by decide +kernel
theorem dX6_readCraft_124 : decode cX6_readCraft 124 = .ok (.isub, 1) := by decide +kernel
theorem dX6_readCraft_125 : decode cX6_readCraft 125 = .ok (.iastore, 1) := by decide +kernel
theorem dX6_readCraft_126 : decode cX6_readCraft 126 = .ok (.bipush 6, 2) := by decide +kernel
theorem dX6_readCraft_128 : decode cX6_readCraft 128 = .ok (.istore_n 1, 1) := by decide +kernel
theorem dX6_readCraft_129 : decode cX6_readCraft 129 = .ok (.iload_n 1, 1) := by decide +kernel
theorem dX6_readCraft_130 : decode cX6_readCraft 130 = .ok (.aload_n 0, 1) := by decide +kernel
theorem dX6_readCraft_131 : decode cX6_readCraft 131 = .ok (.getfield 100, 3) := by decide +kernel
theorem dX6_readCraft_134 : decode cX6_readCraft 134 = .ok (.if_icmp .ge 167, 3) := by decide +kernel
theorem dX6_readCraft_137 : decode cX6_readCraft 137 = .ok (.iconst 0, 1) := by decide +kernel
theorem dX6_readCraft_138 : decode cX6_readCraft 138 = .ok (.istore_n 2, 1) := by decide +kernel
theorem dX6_readCraft_139 : decode cX6_readCraft 139 = .ok (.iload_n 2, 1) := by decide +kernel
theorem dX6_readCraft_140 : decode cX6_readCraft 140 = .ok (.bipush 7, 2) := by decide +kernel
theorem dX6_readCraft_142 : decode cX6_readCraft 142 = .ok (.if_icmp .ge 34, 3) := by decide +kernel
theorem dX6_readCraft_145 : decode cX6_readCraft 145 = .ok (.iload_n 1, 1) := by decide +kernel
theorem dX6_readCraft_146 : decode cX6_readCraft 146 = .ok (.iload_n 2, 1) := by decide +kernel
theorem dX6_readCraft_147 : decode cX6_readCraft 147 = .ok (.iadd, 1) := by decide +kernel
theorem dX6_readCraft_148 : decode cX6_readCraft 148 = .ok (.aload_n 0, 1) := by decide +kernel
theorem dX6_readCraft_149 : decode cX6_readCraft 149 = .ok (.getfield 100, 3) := by decide +kernel
theorem dX6_readCraft_152 : decode cX6_readCraft 152 = .ok (.if_icmp .eq 14, 3) := by decide +kernel
theorem dX6_readCraft_155 : decode cX6_readCraft 155 = .ok (.aload_n 0, 1) := by decide +kernel
theorem dX6_readCraft_156 : decode cX6_readCraft 156 = .ok (.iload_n 1, 1) := by decide +kernel
theorem dX6_readCraft_157 : decode cX6_readCraft 157 = .ok (.iload_n 2, 1) := by decide +kernel
theorem dX6_readCraft_158 : decode cX6_readCraft 158 = .ok (.iadd, 1) := by decide +kernel
theorem dX6_readCraft_159 : decode cX6_readCraft 159 = .ok (.iload_n 2, 1) := by decide +kernel
theorem dX6_readCraft_160 : decode cX6_readCraft 160 = .ok (.invokevirtual 119, 3) := by decide +kernel
theorem dX6_readCraft_163 : decode cX6_readCraft 163 = .ok (.ifCond .ne 7, 3) := by decide +kernel
theorem dX6_readCraft_166 : decode cX6_readCraft 166 = .ok (.iload_n 1, 1) := by decide +kernel
theorem dX6_readCraft_167 : decode cX6_readCraft 167 = .ok (.iload_n 2, 1) := by decide +kernel
theorem dX6_readCraft_168 : decode cX6_readCraft 168 = .ok (.iadd, 1) := by decide +kernel
theorem dX6_readCraft_169 : decode cX6_readCraft 169 = .ok (.ireturn, 1) := by decide +kernel
theorem dX6_readCraft_170 : decode cX6_readCraft 170 = .ok (.iinc 2 1, 3) := by decide +kernel
theorem dX6_readCraft_173 : decode cX6_readCraft 173 = .ok (.goto (-34), 3) := by decide +kernel
theorem dX6_readCraft_176 : decode cX6_readCraft 176 = .ok (.aload_n 0, 1) := by decide +kernel
theorem dX6_readCraft_177 : decode cX6_readCraft 177 = .ok (.getfield 7, 3) := by decide +kernel
theorem dX6_readCraft_180 : decode cX6_readCraft 180 = .ok (.iload_n 1, 1) := by decide +kernel
theorem dX6_readCraft_181 : decode cX6_readCraft 181 = .ok (.iaload, 1) := by decide +kernel
theorem dX6_readCraft_182 : decode cX6_readCraft 182 = .ok (.bipush 119, 2) := by decide +kernel
theorem dX6_readCraft_184 : decode cX6_readCraft 184 = .ok (.if_icmp .ne 7, 3) := by decide +kernel
theorem dX6_readCraft_187 : decode cX6_readCraft 187 = .ok (.iconst 1, 1) := by decide +kernel
theorem dX6_readCraft_188 : decode cX6_readCraft 188 = .ok (.goto 4, 3) := by decide +kernel
theorem dX6_readCraft_191 : decode cX6_readCraft 191 = .ok (.iconst 0, 1) := by decide +kernel
theorem dX6_readCraft_192 : decode cX6_readCraft 192 = .ok (.istore_n 2, 1) := by decide +kernel
theorem dX6_readCraft_193 : decode cX6_readCraft 193 = .ok (.iconst 0, 1) := by decide +kernel
theorem dX6_readCraft_194 : decode cX6_readCraft 194 = .ok (.istore_n 3, 1) := by decide +kernel
theorem dX6_readCraft_195 : decode cX6_readCraft 195 = .ok (.iload_n 3, 1) := by decide +kernel
theorem dX6_readCraft_196 : decode cX6_readCraft 196 = .ok (.iconst 3, 1) := by decide +kernel
theorem dX6_readCraft_197 : decode cX6_readCraft 197 = .ok (.if_icmp .ge 62, 3) := by decide +kernel
theorem dX6_readCraft_200 : decode cX6_readCraft 200 = .ok (.aload_n 0, 1) := by decide +kernel
theorem dX6_readCraft_201 : decode cX6_readCraft 201 = .ok (.iload_n 1, 1) := by decide +kernel
theorem dX6_readCraft_202 : decode cX6_readCraft 202 = .ok (.iconst 1, 1) := by decide +kernel
theorem dX6_readCraft_203 : decode cX6_readCraft 203 = .ok (.iadd, 1) := by decide +kernel
theorem dX6_readCraft_204 : decode cX6_readCraft 204 = .ok (.iconst 2, 1) := by decide +kernel
theorem dX6_readCraft_205 : decode cX6_readCraft 205 = .ok (.iload_n 3, 1) := by decide +kernel
theorem dX6_readCraft_206 : decode cX6_readCraft 206 = .ok (.imul, 1) := by decide +kernel
theorem dX6_readCraft_207 : decode cX6_readCraft 207 = .ok (.iadd, 1) := by decide +kernel
theorem dX6_readCraft_208 : decode cX6_readCraft 208 = .ok (.invokevirtual 122, 3) := by decide +kernel
theorem dX6_readCraft_211 : decode cX6_readCraft 211 = .ok (.istore 4, 2) := by decide +kernel
theorem dX6_readCraft_213 : decode cX6_readCraft 213 = .ok (.iload_n 2, 1) := by decide +kernel
theorem dX6_readCraft_214 : decode cX6_readCraft 214 = .ok (.ifCond .eq 24, 3) := by decide +kernel
theorem dX6_readCraft_217 : decode cX6_readCraft 217 = .ok (.aload_n 0, 1) := by decide +kernel
theorem dX6_readCraft_218 : decode cX6_readCraft 218 = .ok (.getfield 22, 3) := by decide +kernel
theorem dX6_readCraft_221 : decode cX6_readCraft 221 = .ok (.bipush 11, 2) := by decide +kernel
theorem dX6_readCraft_223 : decode cX6_readCraft 223 = .ok (.iconst 3, 1) := by decide +kernel
theorem dX6_readCraft_224 : decode cX6_readCraft 224 = .ok (.aload_n 0, 1) := by decide +kernel
theorem dX6_readCraft_225 : decode cX6_readCraft 225 = .ok (.getfield 109, 3) := by decide +kernel
theorem dX6_readCraft_228 : decode cX6_readCraft 228 = .ok (.imul, 1) := by decide +kernel
theorem dX6_readCraft_229 : decode cX6_readCraft 229 = .ok (.iadd, 1) := by decide +kernel
theorem dX6_readCraft_230 : decode cX6_readCraft 230 = .ok (.iload_n 3, 1) := by decide +kernel
theorem dX6_readCraft_231 : decode cX6_readCraft 231 = .ok (.iadd, 1) := by decide +kernel
theorem dX6_readCraft_232 : decode cX6_readCraft 232 = .ok (.iload 4, 2) := by decide +kernel
theorem dX6_readCraft_234 : decode cX6_readCraft 234 = .ok (.iastore, 1) := by decide +kernel
theorem dX6_readCraft_235 : decode cX6_readCraft 235 = .ok (.goto 18, 3) := by decide +kernel
theorem dX6_readCraft_238 : decode cX6_readCraft 238 = .ok (.aload_n 0, 1) := by decide +kernel
theorem dX6_readCraft_239 : decode cX6_readCraft 239 = .ok (.getfield 19, 3) := by decide +kernel
theorem dX6_readCraft_242 : decode cX6_readCraft 242 = .ok (.iconst 3, 1) := by decide +kernel
theorem dX6_readCraft_243 : decode cX6_readCraft 243 = .ok (.aload_n 0, 1) := by decide +kernel
theorem dX6_readCraft_244 : decode cX6_readCraft 244 = .ok (.getfield 112, 3) := by decide +kernel
theorem dX6_readCraft_247 : decode cX6_readCraft 247 = .ok (.imul, 1) := by decide +kernel
theorem dX6_readCraft_248 : decode cX6_readCraft 248 = .ok (.iload_n 3, 1) := by decide +kernel
theorem dX6_readCraft_249 : decode cX6_readCraft 249 = .ok (.iadd, 1) := by decide +kernel
theorem dX6_readCraft_250 : decode cX6_readCraft 250 = .ok (.iload 4, 2) := by decide +kernel
theorem dX6_readCraft_252 : decode cX6_readCraft 252 = .ok (.iastore, 1) := by decide +kernel
theorem dX6_readCraft_253 : decode cX6_readCraft 253 = .ok (.iinc 3 1, 3) := by decide +kernel
theorem dX6_readCraft_256 : decode cX6_readCraft 256 = .ok (.goto (-61), 3) := by decide +kernel
theorem dX6_readCraft_259 : decode cX6_readCraft 259 = .ok (.aload_n 0, 1) := by decide +kernel
theorem dX6_readCraft_260 : decode cX6_readCraft 260 = .ok (.dup, 1) := by decide +kernel
theorem dX6_readCraft_261 : decode cX6_readCraft 261 = .ok (.getfield 109, 3) := by decide +kernel
theorem dX6_readCraft_264 : decode cX6_readCraft 264 = .ok (.iload_n 2, 1) := by decide +kernel
theorem dX6_readCraft_265 : decode cX6_readCraft 265 = .ok (.ifCond .eq 7, 3) := by decide +kernel
theorem dX6_readCraft_268 : decode cX6_readCraft 268 = .ok (.iconst 1, 1) := by decide +kernel
theorem dX6_readCraft_269 : decode cX6_readCraft 269 = .ok (.goto 4, 3) := by decide +kernel
theorem dX6_readCraft_272 : decode cX6_readCraft 272 = .ok (.iconst 0, 1) := by decide +kernel
theorem dX6_readCraft_273 : decode cX6_readCraft 273 = .ok (.iadd, 1) := by decide +kernel
theorem dX6_readCraft_274 : decode cX6_readCraft 274 = .ok (.putfield 109, 3) := by decide +kernel
theorem dX6_readCraft_277 : decode cX6_readCraft 277 = .ok (.aload_n 0, 1) := by decide +kernel
theorem dX6_readCraft_278 : decode cX6_readCraft 278 = .ok (.dup, 1) := by decide +kernel
theorem dX6_readCraft_279 : decode cX6_readCraft 279 = .ok (.getfield 112, 3) := by decide +kernel
theorem dX6_readCraft_282 : decode cX6_readCraft 282 = .ok (.iload_n 2, 1) := by decide +kernel
theorem dX6_readCraft_283 : decode cX6_readCraft 283 = .ok (.ifCond .eq 7, 3) := by decide +kernel
theorem dX6_readCraft_286 : decode cX6_readCraft 286 = .ok (.iconst 0, 1) := by decide +kernel
theorem dX6_readCraft_287 : decode cX6_readCraft 287 = .ok (.goto 4, 3) := by decide +kernel
theorem dX6_readCraft_290 : decode cX6_readCraft 290 = .ok (.iconst 1, 1) := by decide +kernel
theorem dX6_readCraft_291 : decode cX6_readCraft 291 = .ok (.iadd, 1) := by decide +kernel
theorem dX6_readCraft_292 : decode cX6_readCraft 292 = .ok (.putfield 112, 3) := by decide +kernel
theorem dX6_readCraft_295 : decode cX6_readCraft 295 = .ok (.iinc 1 7, 3) := by decide +kernel
theorem dX6_readCraft_298 : decode cX6_readCraft 298 = .ok (.goto (-169), 3) := by decide +kernel
theorem dX6_readCraft_301 : decode cX6_readCraft 301 = .ok (.bipush (-9), 2) := by decide +kernel
theorem dX6_readCraft_303 : decode cX6_readCraft 303 = .ok (.ireturn, 1) := by decide +kernel
set_option maxRecDepth 20000 in
theorem ggX6_readCraft_X6_begin : GoodIn wsX6_readCraft wsX6_begin := goodIn_r _ [10] rfl (by decide +kernel)
set_option maxRecDepth 20000 in
theorem gX6_readCraft_X6_begin : GoodIn wsX6_readCraft (va_wsS RX6 84 yX6_begin wsX6_begin) := goodIn_app (goodIn_of _ (by decide +kernel)) ggX6_readCraft_X6_begin
set_option maxRecDepth 20000 in
theorem ggX6_readCraft_X6_number : GoodIn wsX6_readCraft wsX6_number := goodIn_r _ [30, 5, 31, 32, 33, 34, 35, 36, 37, 38, 39, 40, 41, 42, 43, 44, 45, 46, 47, 48, 49, 50, 51, 52, 53, 54, 55, 56, 57, 58, 59, 60, 61, 62, 63, 64, 65, 66] rfl (by decide +kernel)
set_option maxRecDepth 20000 in
theorem gX6_readCraft_X6_number : GoodIn wsX6_readCraft (wsV RX6 122 RX6 yX6_number wsX6_number) := goodIn_app (goodIn_of _ (by decide +kernel)) ggX6_readCraft_X6_number
set_option maxRecDepth 20000 in
theorem ggX6_readCraft_X6_isPart : GoodIn wsX6_readCraft wsX6_isPart := goodIn_r _ [26, 5, 2, 3, 15, 16, 17, 9, 18, 19, 20, 21, 22, 31, 32, 33, 34, 35, 36, 37, 38, 39, 40, 41, 42, 43, 44, 45, 46, 47, 48, 49, 50, 51, 52, 53, 54, 55, 56, 57, 58, 59, 60, 61, 62, 63, 64, 65, 66] rfl (by decide +kernel)
set_option maxRecDepth 20000 in
theorem gX6_readCraft_X6_isPart : GoodIn wsX6_readCraft (wsV RX6 119 RX6 yX6_isPart wsX6_isPart) := goodIn_app (goodIn_of _ (by decide +kernel)) ggX6_readCraft_X6_isPart
set_option maxRecDepth 20000 in
theorem ggX6_readCraft_X6_isHead : GoodIn wsX6_readCraft wsX6_isHead := goodIn_r _ [14, 5, 15, 16, 17, 9, 18, 19, 20, 21, 22, 31, 32, 33, 34, 35, 36, 37, 38, 39, 40, 41, 42, 43, 44, 45, 46, 47, 48, 49, 50, 51, 52, 53, 54, 55, 56, 57, 58, 59, 60, 61, 62, 63, 64, 65, 66] rfl (by decide +kernel)
set_option maxRecDepth 20000 in
theorem gX6_readCraft_X6_isHead : GoodIn wsX6_readCraft (wsV RX6 115 RX6 yX6_isHead wsX6_isHead) := goodIn_app (goodIn_of _ (by decide +kernel)) ggX6_readCraft_X6_isHead
theorem inX6_readCraft_X6 : ∀ w ∈ u_ws RX6 TX6 36, w ∈ wsX6_readCraft := fun w h => List.mem_cons_of_mem _ (List.mem_append_right _ h)
set_option maxRecDepth 100000 in
set_option maxHeartbeats 4000000 in
theorem m_X6_readCraft {l : Launch} {D : va_G} {E : Nat → ClassId} {T : Nat → Nat} (o : Nat) (tx : Nat) (len : Nat) (rp : Nat) (ra : Nat) (u0 : Value) (u3 : Value) (u4 : Value) (u5 : Value) (u6 : Value) (u11 : Value) (u12 : Value) (u13 : Value) (u14 : Value) (u15 : Value) (u16 : Value) (u17 : Value) (u18 : Value) (u19 : Value) (u20 : Value) (u21 : Value) (u22 : Value) (u23 : Value) (u24 : Value) (u25 : Value) (u26 : Value) (u27 : Value) (u28 : Value) (u29 : Value) (u30 : Value) (u31 : Value) (u32 : Value) (u33 : Value) (u34 : Value) (u35 : Value) (w7 : Value) (w8 : Value) (tt : Nat → Nat) (g : Nat → Int32) (gg9 : Nat → Int32) (hl9 : len ≤ 120) (ht9 : ∀ j, tt j < 256) : g_M l D E T yX6_readCraft wsX6_readCraft 3 69 [.ref o] [(o, .inr (6, [u0, .ref tx, .int (nI len), u3, u4, u5, u6, w7, w8, .ref ra, .ref rp, u11, u12, u13, u14, u15, u16, u17, u18, u19, u20, u21, u22, u23, u24, u25, u26, u27, u28, u29, u30, u31, u32, u33, u34, u35])), (tx, .inl (E 0, 120, .inl (txF tt))), (rp, .inl (E 0, 29, .inl g)), (ra, .inl (E 0, 18, .inl gg9))] [(o, .inr (6, [u0, .ref tx, .int (nI len), u3, u4, u5, u6, .int (nI (rcW tt (enN tt len))), .int (nI (rcF tt (enN tt len))), .ref ra, .ref rp, u11, u12, u13, u14, u15, u16, u17, u18, u19, u20, u21, u22, u23, u24, u25, u26, u27, u28, u29, u30, u31, u32, u33, u34, u35])), (tx, .inl (E 0, 120, .inl (txF tt))), (rp, .inl (E 0, 29, .inl (rcP tt (enN tt len)))), (ra, .inl (E 0, 18, .inl (rcG tt gg9 (enN tt len))))] (some (.int (ftF tt len))) := by
  refine g_M.of (cc := cX6_readCraft) (nL := 5) (ret := (some .int)) (own := RX6) (lv := [(0, .ref o)]) (by decide) rfl rfl (Nat.le_of_ble_eq_true rfl) rfl ?_
  intro p e R s m args below meth c A Q H locs ls hR hQ hc hr hw hl
  have hx := hc.1
  have hb := hc.2.1
  have hts := hc.2.2.2.1
  have hown := hc.2.2.2.2.1
  refine lv_aload_n hx hb dX6_readCraft_0 rfl (lv_at hl 0 rfl) ?_
  refine g_get (TT := TX6) hc hw inX6_readCraft_X6 0 10 1 rfl rfl (by decide) rfl rfl dX6_readCraft_1 ?_
  refine g_cS (As := [.ref rp]) (n := 1) (rest := []) (wc := [(rp, .inl (E 0, 29, .inl g))]) (w1 := [(rp, .inl (E 0, 29, .inl (pgF iniS)))]) (bytes := cX6_begin) (maxL := 2) (ret := none) hc hw hl.1 (m_X6_begin (l := l) (D := D) (E := E) (T := T) rp g) gX6_readCraft_X6_begin rfl (by decide +kernel) (by rw [hR]; exact ⟨Nat.le_of_ble_eq_true rfl, Nat.le_of_ble_eq_true rfl⟩) [2] (by decide) rfl [rp] rfl rfl rfl rfl (Nat.le_of_ble_eq_true rfl) dX6_readCraft_4 ⟨Nat.zero_le _, Nat.zero_le _⟩ (fun H locs hw => ?_)
  have hw : g_W D A s [(o, .inr (6, [u0, .ref tx, .int (nI len), u3, u4, u5, u6, w7, w8, .ref ra, .ref rp, u11, u12, u13, u14, u15, u16, u17, u18, u19, u20, u21, u22, u23, u24, u25, u26, u27, u28, u29, u30, u31, u32, u33, u34, u35])), (tx, .inl (E 0, 120, .inl (txF tt))), (rp, .inl (E 0, 29, .inl (pgF iniS))), (ra, .inl (E 0, 18, .inl gg9))] H locs := hw
  refine lv_aload_n hx hb dX6_readCraft_7 rfl (lv_at hl 0 rfl) ?_
  refine lv_iconst (v := 0) hx hb dX6_readCraft_8 (by decide) ?_
  refine g_put (TT := TX6) hc hw inX6_readCraft_X6 tyX6 tyX6_ok nmX6 0 7 2 rfl rfl (by decide) rfl rfl rfl rfl (Nat.le_of_ble_eq_true rfl) dX6_readCraft_9 (fun H locs hw => ?_)
  have hw : g_W D A s [(o, .inr (6, [u0, .ref tx, .int (nI len), u3, u4, u5, u6, .int 0, w8, .ref ra, .ref rp, u11, u12, u13, u14, u15, u16, u17, u18, u19, u20, u21, u22, u23, u24, u25, u26, u27, u28, u29, u30, u31, u32, u33, u34, u35])), (tx, .inl (E 0, 120, .inl (txF tt))), (rp, .inl (E 0, 29, .inl (pgF iniS))), (ra, .inl (E 0, 18, .inl gg9))] H locs := hw
  refine lv_aload_n hx hb dX6_readCraft_12 rfl (lv_at hl 0 rfl) ?_
  refine lv_iconst (v := 0) hx hb dX6_readCraft_13 (by decide) ?_
  refine g_put (TT := TX6) hc hw inX6_readCraft_X6 tyX6 tyX6_ok nmX6 0 8 3 rfl rfl (by decide) rfl rfl rfl rfl (Nat.le_of_ble_eq_true rfl) dX6_readCraft_14 (fun H locs hw => ?_)
  have hw : g_W D A s [(o, .inr (6, [u0, .ref tx, .int (nI len), u3, u4, u5, u6, .int 0, .int 0, .ref ra, .ref rp, u11, u12, u13, u14, u15, u16, u17, u18, u19, u20, u21, u22, u23, u24, u25, u26, u27, u28, u29, u30, u31, u32, u33, u34, u35])), (tx, .inl (E 0, 120, .inl (txF tt))), (rp, .inl (E 0, 29, .inl (pgF iniS))), (ra, .inl (E 0, 18, .inl gg9))] H locs := hw
  refine lv_iconst (v := 0) hx hb dX6_readCraft_17 (by decide) ?_
  refine lv_istore_n (lv' := [(1, .int 0), (0, .ref o)]) hx hb dX6_readCraft_18 rfl hl (by decide) rfl (fun ls hl => ?_)
  have J19 : ∀ (k9 : Nat) (i : Nat), i + k9 = 6 → (∀ j, j < i → okB tt j = true) → (i ≤ len) → ∀ (H : Heap) (locs : List Loc) (ls : Array Slot), g_W D A s [(o, .inr (6, [u0, .ref tx, .int (nI len), u3, u4, u5, u6, .int 0, .int 0, .ref ra, .ref rp, u11, u12, u13, u14, u15, u16, u17, u18, u19, u20, u21, u22, u23, u24, u25, u26, u27, u28, u29, u30, u31, u32, u33, u34, u35])), (tx, .inl (E 0, 120, .inl (txF tt))), (rp, .inl (E 0, 29, .inl (pgF iniS))), (ra, .inl (E 0, 18, .inl gg9))] H locs → lv_has ls 5 [(0, .ref o), (1, .int (nI i))] → W p l e R s m args below meth c H locs 0 0 Q (F0 m 19 ls []) := by
    intro k9
    induction k9 with
    | zero =>
      intro i h9  hall hil H locs ls hw hl
      have h9 : i = 6 := h9
      subst h9
      refine lv_iload_n hx hb dX6_readCraft_19 rfl (lv_at hl 1 rfl) ?_
      refine lv_bipush (v := 6) hx hb dX6_readCraft_20 (by decide) ?_
      refine lv_icmp_ge (tgt := 49) hx hb dX6_readCraft_22 (by decide) (fun c_22 => ?_) (fun c_22 => absurd (by first | exact Int32.le_refl _ | decide) c_22)
      refine lv_aload_n hx hb dX6_readCraft_49 rfl (lv_at hl 0 rfl) ?_
      refine g_get (TT := TX6) hc hw inX6_readCraft_X6 0 10 1 rfl rfl (by decide) rfl rfl dX6_readCraft_50 ?_
      refine lv_bipush (v := 7) hx hb dX6_readCraft_53 (by decide) ?_
      refine lv_bipush (v := 10) hx hb dX6_readCraft_55 (by decide) ?_
      refine lv_aload_n hx hb dX6_readCraft_57 rfl (lv_at hl 0 rfl) ?_
      refine g_get (TT := TX6) hc hw inX6_readCraft_X6 0 1 5 rfl rfl (by decide) rfl rfl dX6_readCraft_58 ?_
      refine lv_iconst (v := 1) hx hb dX6_readCraft_61 (by decide) ?_
      refine g_ild hc hw 1 1 rfl rfl (by omega) (by decide) dX6_readCraft_62 ?_
      refine lv_bipush (v := 48) hx hb dX6_readCraft_63 (by decide) ?_
      refine lv_isub hx hb dX6_readCraft_65 ?_
      refine lv_imul hx hb dX6_readCraft_66 ?_
      refine lv_aload_n hx hb dX6_readCraft_67 rfl (lv_at hl 0 rfl) ?_
      refine g_get (TT := TX6) hc hw inX6_readCraft_X6 0 1 5 rfl rfl (by decide) rfl rfl dX6_readCraft_68 ?_
      refine lv_iconst (v := 2) hx hb dX6_readCraft_71 (by decide) ?_
      refine g_ild hc hw 1 2 rfl rfl (by omega) (by decide) dX6_readCraft_72 ?_
      refine lv_iadd hx hb dX6_readCraft_73 ?_
      refine lv_bipush (v := 48) hx hb dX6_readCraft_74 (by decide) ?_
      refine lv_isub hx hb dX6_readCraft_76 ?_
      refine g_ist hc hw 2 7 rfl rfl (by omega) (by decide) dX6_readCraft_77 (fun H locs hw => ?_)
      have hw : g_W D A s [(o, .inr (6, [u0, .ref tx, .int (nI len), u3, u4, u5, u6, .int 0, .int 0, .ref ra, .ref rp, u11, u12, u13, u14, u15, u16, u17, u18, u19, u20, u21, u22, u23, u24, u25, u26, u27, u28, u29, u30, u31, u32, u33, u34, u35])), (tx, .inl (E 0, 120, .inl (txF tt))), (rp, .inl (E 0, 29, .inl (upd (pgF iniS) 7 (((10 * ((nI (tt 1)) - 48)) + (nI (tt 2))) - 48)))), (ra, .inl (E 0, 18, .inl gg9))] H locs := hw
      rw [pg_T7] at hw
      have hw : g_W D A s [(o, .inr (6, [u0, .ref tx, .int (nI len), u3, u4, u5, u6, .int 0, .int 0, .ref ra, .ref rp, u11, u12, u13, u14, u15, u16, u17, u18, u19, u20, u21, u22, u23, u24, u25, u26, u27, u28, u29, u30, u31, u32, u33, u34, u35])), (tx, .inl (E 0, 120, .inl (txF tt))), (rp, .inl (E 0, 29, .inl (pgF (stS iniS 0 (((10 * ((nI (tt 1)) - 48)) + (nI (tt 2))) - 48))))), (ra, .inl (E 0, 18, .inl gg9))] H locs := hw
      refine lv_aload_n hx hb dX6_readCraft_78 rfl (lv_at hl 0 rfl) ?_
      refine g_get (TT := TX6) hc hw inX6_readCraft_X6 0 10 1 rfl rfl (by decide) rfl rfl dX6_readCraft_79 ?_
      refine lv_bipush (v := 8) hx hb dX6_readCraft_82 (by decide) ?_
      refine lv_aload_n hx hb dX6_readCraft_84 rfl (lv_at hl 0 rfl) ?_
      refine g_get (TT := TX6) hc hw inX6_readCraft_X6 0 1 5 rfl rfl (by decide) rfl rfl dX6_readCraft_85 ?_
      refine lv_iconst (v := 3) hx hb dX6_readCraft_88 (by decide) ?_
      refine g_ild hc hw 1 3 rfl rfl (by omega) (by decide) dX6_readCraft_89 ?_
      refine lv_bipush (v := 48) hx hb dX6_readCraft_90 (by decide) ?_
      refine lv_isub hx hb dX6_readCraft_92 ?_
      refine g_ist hc hw 2 8 rfl rfl (by omega) (by decide) dX6_readCraft_93 (fun H locs hw => ?_)
      have hw : g_W D A s [(o, .inr (6, [u0, .ref tx, .int (nI len), u3, u4, u5, u6, .int 0, .int 0, .ref ra, .ref rp, u11, u12, u13, u14, u15, u16, u17, u18, u19, u20, u21, u22, u23, u24, u25, u26, u27, u28, u29, u30, u31, u32, u33, u34, u35])), (tx, .inl (E 0, 120, .inl (txF tt))), (rp, .inl (E 0, 29, .inl (upd (pgF (stS iniS 0 (((10 * ((nI (tt 1)) - 48)) + (nI (tt 2))) - 48))) 8 ((nI (tt 3)) - 48)))), (ra, .inl (E 0, 18, .inl gg9))] H locs := hw
      rw [pg_T8] at hw
      have hw : g_W D A s [(o, .inr (6, [u0, .ref tx, .int (nI len), u3, u4, u5, u6, .int 0, .int 0, .ref ra, .ref rp, u11, u12, u13, u14, u15, u16, u17, u18, u19, u20, u21, u22, u23, u24, u25, u26, u27, u28, u29, u30, u31, u32, u33, u34, u35])), (tx, .inl (E 0, 120, .inl (txF tt))), (rp, .inl (E 0, 29, .inl (pgF (stS (stS iniS 0 (((10 * ((nI (tt 1)) - 48)) + (nI (tt 2))) - 48)) 1 ((nI (tt 3)) - 48))))), (ra, .inl (E 0, 18, .inl gg9))] H locs := hw
      refine lv_aload_n hx hb dX6_readCraft_94 rfl (lv_at hl 0 rfl) ?_
      refine g_get (TT := TX6) hc hw inX6_readCraft_X6 0 10 1 rfl rfl (by decide) rfl rfl dX6_readCraft_95 ?_
      refine lv_bipush (v := 9) hx hb dX6_readCraft_98 (by decide) ?_
      refine lv_aload_n hx hb dX6_readCraft_100 rfl (lv_at hl 0 rfl) ?_
      refine g_get (TT := TX6) hc hw inX6_readCraft_X6 0 1 5 rfl rfl (by decide) rfl rfl dX6_readCraft_101 ?_
      refine lv_iconst (v := 4) hx hb dX6_readCraft_104 (by decide) ?_
      refine g_ild hc hw 1 4 rfl rfl (by omega) (by decide) dX6_readCraft_105 ?_
      refine lv_bipush (v := 48) hx hb dX6_readCraft_106 (by decide) ?_
      refine lv_isub hx hb dX6_readCraft_108 ?_
      refine g_ist hc hw 2 9 rfl rfl (by omega) (by decide) dX6_readCraft_109 (fun H locs hw => ?_)
      have hw : g_W D A s [(o, .inr (6, [u0, .ref tx, .int (nI len), u3, u4, u5, u6, .int 0, .int 0, .ref ra, .ref rp, u11, u12, u13, u14, u15, u16, u17, u18, u19, u20, u21, u22, u23, u24, u25, u26, u27, u28, u29, u30, u31, u32, u33, u34, u35])), (tx, .inl (E 0, 120, .inl (txF tt))), (rp, .inl (E 0, 29, .inl (upd (pgF (stS (stS iniS 0 (((10 * ((nI (tt 1)) - 48)) + (nI (tt 2))) - 48)) 1 ((nI (tt 3)) - 48))) 9 ((nI (tt 4)) - 48)))), (ra, .inl (E 0, 18, .inl gg9))] H locs := hw
      rw [pg_T9] at hw
      have hw : g_W D A s [(o, .inr (6, [u0, .ref tx, .int (nI len), u3, u4, u5, u6, .int 0, .int 0, .ref ra, .ref rp, u11, u12, u13, u14, u15, u16, u17, u18, u19, u20, u21, u22, u23, u24, u25, u26, u27, u28, u29, u30, u31, u32, u33, u34, u35])), (tx, .inl (E 0, 120, .inl (txF tt))), (rp, .inl (E 0, 29, .inl (pgF (stS (stS (stS iniS 0 (((10 * ((nI (tt 1)) - 48)) + (nI (tt 2))) - 48)) 1 ((nI (tt 3)) - 48)) 2 ((nI (tt 4)) - 48))))), (ra, .inl (E 0, 18, .inl gg9))] H locs := hw
      refine lv_aload_n hx hb dX6_readCraft_110 rfl (lv_at hl 0 rfl) ?_
      refine g_get (TT := TX6) hc hw inX6_readCraft_X6 0 10 1 rfl rfl (by decide) rfl rfl dX6_readCraft_111 ?_
      refine lv_bipush (v := 10) hx hb dX6_readCraft_114 (by decide) ?_
      refine lv_aload_n hx hb dX6_readCraft_116 rfl (lv_at hl 0 rfl) ?_
      refine g_get (TT := TX6) hc hw inX6_readCraft_X6 0 1 5 rfl rfl (by decide) rfl rfl dX6_readCraft_117 ?_
      refine lv_iconst (v := 5) hx hb dX6_readCraft_120 (by decide) ?_
      refine g_ild hc hw 1 5 rfl rfl (by omega) (by decide) dX6_readCraft_121 ?_
      refine lv_bipush (v := 48) hx hb dX6_readCraft_122 (by decide) ?_
      refine lv_isub hx hb dX6_readCraft_124 ?_
      refine g_ist hc hw 2 10 rfl rfl (by omega) (by decide) dX6_readCraft_125 (fun H locs hw => ?_)
      have hw : g_W D A s [(o, .inr (6, [u0, .ref tx, .int (nI len), u3, u4, u5, u6, .int 0, .int 0, .ref ra, .ref rp, u11, u12, u13, u14, u15, u16, u17, u18, u19, u20, u21, u22, u23, u24, u25, u26, u27, u28, u29, u30, u31, u32, u33, u34, u35])), (tx, .inl (E 0, 120, .inl (txF tt))), (rp, .inl (E 0, 29, .inl (upd (pgF (stS (stS (stS iniS 0 (((10 * ((nI (tt 1)) - 48)) + (nI (tt 2))) - 48)) 1 ((nI (tt 3)) - 48)) 2 ((nI (tt 4)) - 48))) 10 ((nI (tt 5)) - 48)))), (ra, .inl (E 0, 18, .inl gg9))] H locs := hw
      rw [pg_T10] at hw
      have hw : g_W D A s [(o, .inr (6, [u0, .ref tx, .int (nI len), u3, u4, u5, u6, .int 0, .int 0, .ref ra, .ref rp, u11, u12, u13, u14, u15, u16, u17, u18, u19, u20, u21, u22, u23, u24, u25, u26, u27, u28, u29, u30, u31, u32, u33, u34, u35])), (tx, .inl (E 0, 120, .inl (txF tt))), (rp, .inl (E 0, 29, .inl (pgF (stS (stS (stS (stS iniS 0 (((10 * ((nI (tt 1)) - 48)) + (nI (tt 2))) - 48)) 1 ((nI (tt 3)) - 48)) 2 ((nI (tt 4)) - 48)) 3 ((nI (tt 5)) - 48))))), (ra, .inl (E 0, 18, .inl gg9))] H locs := hw
      refine lv_bipush (v := 6) hx hb dX6_readCraft_126 (by decide) ?_
      refine lv_istore_n (lv' := [(1, .int 6), (0, .ref o)]) hx hb dX6_readCraft_128 rfl hl (by decide) rfl (fun ls hl => ?_)
      have J129 : ∀ (k9 : Nat) (q9 : Nat), q9 + k9 = 17 → (∀ j, j < 6 + 7 * q9 → okB tt j = true) → (6 + 7 * q9 ≤ len) → (cwN tt (6 + 7 * q9) ≤ 6) → (cfN tt (6 + 7 * q9) ≤ 6) → ∀ (H : Heap) (locs : List Loc) (ls : Array Slot), g_W D A s [(o, .inr (6, [u0, .ref tx, .int (nI len), u3, u4, u5, u6, .int (nI (cwN tt (6 + 7 * q9))), .int (nI (cfN tt (6 + 7 * q9))), .ref ra, .ref rp, u11, u12, u13, u14, u15, u16, u17, u18, u19, u20, u21, u22, u23, u24, u25, u26, u27, u28, u29, u30, u31, u32, u33, u34, u35])), (tx, .inl (E 0, 120, .inl (txF tt))), (rp, .inl (E 0, 29, .inl (pgF (rcS tt q9)))), (ra, .inl (E 0, 18, .inl (flN tt gg9 q9)))] H locs → lv_has ls 5 [(0, .ref o), (1, .int (nI (6 + 7 * q9)))] → W p l e R s m args below meth c H locs 0 0 Q (F0 m 129 ls []) := by
        intro k9
        induction k9 with
        | zero =>
          intro q9 h9  hall hfl hcw hcf H locs ls hw hl
          have h9 : q9 = 17 := h9
          subst h9
          refine lv_iload_n hx hb dX6_readCraft_129 rfl (lv_at hl 1 rfl) ?_
          refine lv_aload_n hx hb dX6_readCraft_130 rfl (lv_at hl 0 rfl) ?_
          refine g_get (TT := TX6) hc hw inX6_readCraft_X6 0 2 4 rfl rfl (by decide) rfl rfl dX6_readCraft_131 ?_
          refine lv_icmp_ge (tgt := 301) hx hb dX6_readCraft_134 (by decide) (fun c_134 => ?_) (fun c_134 => absurd (nI_le (show len ≤ 6 + 7 * 17 by omega) (by omega)) c_134)
          exact absurd hfl (by omega)
        | succ k9 ih =>
          intro q9 h9  hall hfl hcw hcf H locs ls hw hl
          have h9b : q9 < 17 := by omega
          refine lv_iload_n hx hb dX6_readCraft_129 rfl (lv_at hl 1 rfl) ?_
          refine lv_aload_n hx hb dX6_readCraft_130 rfl (lv_at hl 0 rfl) ?_
          refine g_get (TT := TX6) hc hw inX6_readCraft_X6 0 2 4 rfl rfl (by decide) rfl rfl dX6_readCraft_131 ?_
          refine lv_icmp_ge (tgt := 301) hx hb dX6_readCraft_134 (by decide) (fun c_134 => ?_) (fun c_134 => ?_)
          · skip
            have n_134 : len ≤ (6 + 7 * q9) := nf_geT rfl rfl (by omega) (by omega) c_134
            refine lv_bipush (v := (-9)) hx hb dX6_readCraft_301 (by decide) ?_
            have hle9 : 6 + 7 * q9 = len := by omega
            have he9 : enN tt len = 6 + 7 * q9 + 0 := (en_all (by rw [← hle9]; exact hall)).trans hle9.symm
            exact g_iret hQ hc hw hr (by exact congrArg (fun z => some (Value.int z)) (by rw [← hle9]; exact ft_9 hall (by unfold stP; omega))) (by rw [he9, rcW_1 _ _ (by omega), rcF_1 _ _ (by omega), rcP_1 _ _ (by omega), rcG_1 _ _ _ (by omega)]) dX6_readCraft_303
          · skip
            have n_134 : (6 + 7 * q9) < len := nf_geF rfl rfl (by omega) (by omega) c_134
            refine lv_iconst (v := 0) hx hb dX6_readCraft_137 (by decide) ?_
            refine lv_istore_n (lv' := [(2, .int 0), (0, .ref o), (1, .int (nI (6 + 7 * q9)))]) hx hb dX6_readCraft_138 rfl hl (by decide) rfl (fun ls hl => ?_)
            have J139 : ∀ (k9 : Nat) (a9 : Nat), a9 + k9 = 7 → (∀ j, j < 6 + 7 * q9 + a9 → okB tt j = true) → (6 + 7 * q9 + a9 ≤ len) → ∀ (H : Heap) (locs : List Loc) (ls : Array Slot), g_W D A s [(o, .inr (6, [u0, .ref tx, .int (nI len), u3, u4, u5, u6, .int (nI (cwN tt (6 + 7 * q9))), .int (nI (cfN tt (6 + 7 * q9))), .ref ra, .ref rp, u11, u12, u13, u14, u15, u16, u17, u18, u19, u20, u21, u22, u23, u24, u25, u26, u27, u28, u29, u30, u31, u32, u33, u34, u35])), (tx, .inl (E 0, 120, .inl (txF tt))), (rp, .inl (E 0, 29, .inl (pgF (rcS tt q9)))), (ra, .inl (E 0, 18, .inl (flN tt gg9 q9)))] H locs → lv_has ls 5 [(0, .ref o), (1, .int (nI (6 + 7 * q9))), (2, .int (nI a9))] → W p l e R s m args below meth c H locs 0 0 Q (F0 m 139 ls []) := by
              intro k9
              induction k9 with
              | zero =>
                intro a9 h9  hall9 hal H locs ls hw hl
                have h9 : a9 = 7 := h9
                subst h9
                refine lv_iload_n hx hb dX6_readCraft_139 rfl (lv_at hl 2 rfl) ?_
                refine lv_bipush (v := 7) hx hb dX6_readCraft_140 (by decide) ?_
                refine lv_icmp_ge (tgt := 176) hx hb dX6_readCraft_142 (by decide) (fun c_142 => ?_) (fun c_142 => absurd (by first | exact Int32.le_refl _ | decide) c_142)
                have hok9 := ok_st (hall9 (6 + 7 * q9) (by omega))
                refine lv_aload_n hx hb dX6_readCraft_176 rfl (lv_at hl 0 rfl) ?_
                refine g_get (TT := TX6) hc hw inX6_readCraft_X6 0 1 5 rfl rfl (by decide) rfl rfl dX6_readCraft_177 ?_
                refine lv_iload_n hx hb dX6_readCraft_180 rfl (lv_at hl 1 rfl) ?_
                refine g_ild hc hw 1 (6 + 7 * q9) rfl rfl (by omega) (by decide) dX6_readCraft_181 ?_
                refine lv_bipush (v := 119) hx hb dX6_readCraft_182 (by decide) ?_
                refine lv_icmp_ne (tgt := 191) hx hb dX6_readCraft_184 (by decide) (fun c_184 => ?_) (fun c_184 => ?_)
                · skip
                  have n_184 : ¬ (tt (6 + 7 * q9)) = 119 := nf_neT rfl rfl (by omega) (by omega) c_184
                  have hf9 : tt (6 + 7 * q9) = 102 := by omega
                  refine lv_iconst (v := 0) hx hb dX6_readCraft_191 (by decide) ?_
                  refine lv_istore_n (lv' := [(2, .int 0), (0, .ref o), (1, .int (nI (6 + 7 * q9)))]) hx hb dX6_readCraft_192 rfl hl (by decide) rfl (fun ls hl => ?_)
                  refine lv_iconst (v := 0) hx hb dX6_readCraft_193 (by decide) ?_
                  refine lv_istore_n (lv' := [(3, .int 0), (2, .int 0), (0, .ref o), (1, .int (nI (6 + 7 * q9)))]) hx hb dX6_readCraft_194 rfl hl (by decide) rfl (fun ls hl => ?_)
                  have J195 : ∀ (k9 : Nat) (k3 : Nat), k3 + k9 = 3 → ∀ (H : Heap) (locs : List Loc) (ls : Array Slot), g_W D A s [(o, .inr (6, [u0, .ref tx, .int (nI len), u3, u4, u5, u6, .int (nI (cwN tt (6 + 7 * q9))), .int (nI (cfN tt (6 + 7 * q9))), .ref ra, .ref rp, u11, u12, u13, u14, u15, u16, u17, u18, u19, u20, u21, u22, u23, u24, u25, u26, u27, u28, u29, u30, u31, u32, u33, u34, u35])), (tx, .inl (E 0, 120, .inl (txF tt))), (rp, .inl (E 0, 29, .inl (pgF (rcS tt q9)))), (ra, .inl (E 0, 18, .inl (rtP (flN tt gg9 q9) tt (6 + 7 * q9 + 1) (cfN tt (6 + 7 * q9)) k3)))] H locs → lv_has ls 5 [(0, .ref o), (1, .int (nI (6 + 7 * q9))), (2, .int 0), (3, .int (nI k3))] → W p l e R s m args below meth c H locs 0 0 Q (F0 m 195 ls []) := by
                    intro k9
                    induction k9 with
                    | zero =>
                      intro k3 h9   H locs ls hw hl
                      have h9 : k3 = 3 := h9
                      subst h9
                      refine lv_iload_n hx hb dX6_readCraft_195 rfl (lv_at hl 3 rfl) ?_
                      refine lv_iconst (v := 3) hx hb dX6_readCraft_196 (by decide) ?_
                      refine lv_icmp_ge (tgt := 259) hx hb dX6_readCraft_197 (by decide) (fun c_197 => ?_) (fun c_197 => absurd (by first | exact Int32.le_refl _ | decide) c_197)
                      refine lv_aload_n hx hb dX6_readCraft_259 rfl (lv_at hl 0 rfl) ?_
                      refine lv_dup hx hb dX6_readCraft_260 rfl ?_
                      refine g_get (TT := TX6) hc hw inX6_readCraft_X6 0 7 2 rfl rfl (by decide) rfl rfl dX6_readCraft_261 ?_
                      refine lv_iload_n hx hb dX6_readCraft_264 rfl (lv_at hl 2 rfl) ?_
                      refine lv_if_eq (tgt := 272) hx hb dX6_readCraft_265 (by decide) (fun c_265 => ?_) (fun c_265 => absurd c_265 (by decide))
                      refine lv_iconst (v := 0) hx hb dX6_readCraft_272 (by decide) ?_
                      refine lv_iadd hx hb dX6_readCraft_273 ?_
                      refine W.eq (congrArg (fun z => F0 m 274 ls (.int z :: [.ref o])) (show ((nI (cwN tt (6 + 7 * q9))) + 0 : Int32) = nI (cwN tt (6 + 7 * q9) + 0) from (n_add rfl rfl))) ?_
                      refine g_put (TT := TX6) hc hw inX6_readCraft_X6 tyX6 tyX6_ok nmX6 0 7 2 rfl rfl (by decide) rfl rfl rfl rfl (Nat.le_of_ble_eq_true rfl) dX6_readCraft_274 (fun H locs hw => ?_)
                      have hw : g_W D A s [(o, .inr (6, [u0, .ref tx, .int (nI len), u3, u4, u5, u6, .int (nI (cwN tt (6 + 7 * q9) + 0)), .int (nI (cfN tt (6 + 7 * q9))), .ref ra, .ref rp, u11, u12, u13, u14, u15, u16, u17, u18, u19, u20, u21, u22, u23, u24, u25, u26, u27, u28, u29, u30, u31, u32, u33, u34, u35])), (tx, .inl (E 0, 120, .inl (txF tt))), (rp, .inl (E 0, 29, .inl (pgF (rcS tt q9)))), (ra, .inl (E 0, 18, .inl (rtP (flN tt gg9 q9) tt (6 + 7 * q9 + 1) (cfN tt (6 + 7 * q9)) 3)))] H locs := hw
                      refine lv_aload_n hx hb dX6_readCraft_277 rfl (lv_at hl 0 rfl) ?_
                      refine lv_dup hx hb dX6_readCraft_278 rfl ?_
                      refine g_get (TT := TX6) hc hw inX6_readCraft_X6 0 8 3 rfl rfl (by decide) rfl rfl dX6_readCraft_279 ?_
                      refine lv_iload_n hx hb dX6_readCraft_282 rfl (lv_at hl 2 rfl) ?_
                      refine lv_if_eq (tgt := 290) hx hb dX6_readCraft_283 (by decide) (fun c_283 => ?_) (fun c_283 => absurd c_283 (by decide))
                      refine lv_iconst (v := 1) hx hb dX6_readCraft_290 (by decide) ?_
                      refine lv_iadd hx hb dX6_readCraft_291 ?_
                      refine W.eq (congrArg (fun z => F0 m 292 ls (.int z :: [.ref o])) (show ((nI (cfN tt (6 + 7 * q9))) + 1 : Int32) = nI (cfN tt (6 + 7 * q9) + 1) from (n_add rfl rfl))) ?_
                      refine g_put (TT := TX6) hc hw inX6_readCraft_X6 tyX6 tyX6_ok nmX6 0 8 3 rfl rfl (by decide) rfl rfl rfl rfl (Nat.le_of_ble_eq_true rfl) dX6_readCraft_292 (fun H locs hw => ?_)
                      have hw : g_W D A s [(o, .inr (6, [u0, .ref tx, .int (nI len), u3, u4, u5, u6, .int (nI (cwN tt (6 + 7 * q9) + 0)), .int (nI (cfN tt (6 + 7 * q9) + 1)), .ref ra, .ref rp, u11, u12, u13, u14, u15, u16, u17, u18, u19, u20, u21, u22, u23, u24, u25, u26, u27, u28, u29, u30, u31, u32, u33, u34, u35])), (tx, .inl (E 0, 120, .inl (txF tt))), (rp, .inl (E 0, 29, .inl (pgF (rcS tt q9)))), (ra, .inl (E 0, 18, .inl (rtP (flN tt gg9 q9) tt (6 + 7 * q9 + 1) (cfN tt (6 + 7 * q9)) 3)))] H locs := hw
                      refine lv_iinc (v := nI ((6 + 7 * q9) + 7)) (lv' := [(1, .int (nI ((6 + 7 * q9) + 7))), (0, .ref o), (2, .int 0), (3, .int (nI 3))]) hx hb dX6_readCraft_295 hl (k := 1) rfl (n_inc7 rfl) (by decide) rfl (fun ls hl => ?_)
                      refine lv_goto (tgt := 129) hx hb dX6_readCraft_298 (by decide) ?_
                      have hw : g_W D A s [(o, .inr (6, [u0, .ref tx, .int (nI len), u3, u4, u5, u6, .int (nI (cwN tt (6 + 7 * (q9 + 1)))), .int (nI (cfN tt (6 + 7 * (q9 + 1)))), .ref ra, .ref rp, u11, u12, u13, u14, u15, u16, u17, u18, u19, u20, u21, u22, u23, u24, u25, u26, u27, u28, u29, u30, u31, u32, u33, u34, u35])), (tx, .inl (E 0, 120, .inl (txF tt))), (rp, .inl (E 0, 29, .inl (pgF (rcS tt (q9 + 1))))), (ra, .inl (E 0, 18, .inl (flN tt gg9 (q9 + 1))))] H locs := by rw [show cwN tt (6 + 7 * (q9 + 1)) = _ from (cw7_f hf9).symm, show cfN tt (6 + 7 * (q9 + 1)) = _ from (cf7_f hf9).symm, show flN tt gg9 (q9 + 1) = _ from (fl_f hf9).symm, show rcS tt (q9 + 1) = _ from rc_f hf9]; exact hw
                      have hl := lv_conv hl 0 rfl (v' := (.int (nI (6 + 7 * (q9 + 1))))) (by exact congrArg (fun z => Value.int (nI z)) (show 6 + 7 * q9 + 7 = 6 + 7 * (q9 + 1) by omega))
                      have hl : lv_has ls 5 [(1, .int (nI (6 + 7 * (q9 + 1)))), (0, .ref o), (2, .int 0), (3, .int (nI 3))] := hl
                      exact ih (q9 + 1) (by omega)  (by rw [show 6 + 7 * (q9 + 1) = 6 + 7 * q9 + 7 by omega]; exact hall9) (by omega) (by rw [← cw7_f hf9]; omega) (by rw [← cf7_f hf9]; omega) _ _ _ hw (lv_sub hl [1, 0] rfl)
                    | succ k9 ih =>
                      intro k3 h9   H locs ls hw hl
                      have h9b : k3 < 3 := by omega
                      refine lv_iload_n hx hb dX6_readCraft_195 rfl (lv_at hl 3 rfl) ?_
                      refine lv_iconst (v := 3) hx hb dX6_readCraft_196 (by decide) ?_
                      refine lv_icmp_ge (tgt := 259) hx hb dX6_readCraft_197 (by decide) (fun c_197 => absurd c_197 (nI_ge h9b (by decide))) (fun c_197 => ?_)
                      refine lv_aload_n hx hb dX6_readCraft_200 rfl (lv_at hl 0 rfl) ?_
                      refine lv_iload_n hx hb dX6_readCraft_201 rfl (lv_at hl 1 rfl) ?_
                      refine lv_iconst (v := 1) hx hb dX6_readCraft_202 (by decide) ?_
                      refine lv_iadd hx hb dX6_readCraft_203 ?_
                      refine lv_iconst (v := 2) hx hb dX6_readCraft_204 (by decide) ?_
                      refine lv_iload_n hx hb dX6_readCraft_205 rfl (lv_at hl 3 rfl) ?_
                      refine lv_imul hx hb dX6_readCraft_206 ?_
                      refine lv_iadd hx hb dX6_readCraft_207 ?_
                      refine W.eq (congrArg (fun z => F0 m 208 ls (.int z :: [.ref o])) (show (((nI (6 + 7 * q9)) + 1) + (2 * (nI k3)) : Int32) = nI (6 + 7 * q9 + 1 + 2 * k3) from (n_add (n_add rfl rfl) (n_mul rfl rfl)))) ?_
                      refine g_cV (As := [.int (nI (6 + 7 * q9 + 1 + 2 * k3))]) (n := 1) (rest := []) (wc := [(o, .inr (6, [u0, .ref tx, .int (nI len), u3, u4, u5, u6, .int (nI (cwN tt (6 + 7 * q9))), .int (nI (cfN tt (6 + 7 * q9))), .ref ra, .ref rp, u11, u12, u13, u14, u15, u16, u17, u18, u19, u20, u21, u22, u23, u24, u25, u26, u27, u28, u29, u30, u31, u32, u33, u34, u35])), (tx, .inl (E 0, 120, .inl (txF tt)))]) (w1 := [(o, .inr (6, [u0, .ref tx, .int (nI len), u3, u4, u5, u6, .int (nI (cwN tt (6 + 7 * q9))), .int (nI (cfN tt (6 + 7 * q9))), .ref ra, .ref rp, u11, u12, u13, u14, u15, u16, u17, u18, u19, u20, u21, u22, u23, u24, u25, u26, u27, u28, u29, u30, u31, u32, u33, u34, u35])), (tx, .inl (E 0, 120, .inl (txF tt)))]) (bytes := cX6_number) (maxL := 2) (ret := (some .int)) hc hw hl.1 (m_X6_number (l := l) (D := D) (E := E) (T := T) o tx (6 + 7 * q9 + 1 + 2 * k3) u0 (.int (nI len)) u3 u4 u5 u6 (.int (nI (cwN tt (6 + 7 * q9)))) (.int (nI (cfN tt (6 + 7 * q9)))) (.ref ra) (.ref rp) u11 u12 u13 u14 u15 u16 u17 u18 u19 u20 u21 u22 u23 u24 u25 u26 u27 u28 u29 u30 u31 u32 u33 u34 u35 tt (by omega) (by first | assumption | omega | decide)) gX6_readCraft_X6_number rfl (by decide +kernel) (by rw [hR]; exact ⟨Nat.le_of_ble_eq_true rfl, Nat.le_of_ble_eq_true rfl⟩) [0, 1] 0 6 rfl rfl (by decide) rfl [o, tx] rfl rfl rfl rfl (Nat.le_of_ble_eq_true rfl) dX6_readCraft_208 ⟨Nat.zero_le _, Nat.zero_le _⟩ (fun H locs hw => ?_)
                      have hw : g_W D A s [(o, .inr (6, [u0, .ref tx, .int (nI len), u3, u4, u5, u6, .int (nI (cwN tt (6 + 7 * q9))), .int (nI (cfN tt (6 + 7 * q9))), .ref ra, .ref rp, u11, u12, u13, u14, u15, u16, u17, u18, u19, u20, u21, u22, u23, u24, u25, u26, u27, u28, u29, u30, u31, u32, u33, u34, u35])), (tx, .inl (E 0, 120, .inl (txF tt))), (rp, .inl (E 0, 29, .inl (pgF (rcS tt q9)))), (ra, .inl (E 0, 18, .inl (rtP (flN tt gg9 q9) tt (6 + 7 * q9 + 1) (cfN tt (6 + 7 * q9)) k3)))] H locs := hw
                      refine W.eq (congrArg (fun z => F0 m 211 ls (.int z :: [])) (show (nuF tt (6 + 7 * q9 + 1 + 2 * k3) : Int32) = trF tt (6 + 7 * q9 + 1) k3 from rfl)) ?_
                      refine lv_istore (lv' := [(4, .int (trF tt (6 + 7 * q9 + 1) k3)), (0, .ref o), (1, .int (nI (6 + 7 * q9))), (2, .int 0), (3, .int (nI k3))]) hx hb dX6_readCraft_211 hl (by decide) rfl (fun ls hl => ?_)
                      refine lv_iload_n hx hb dX6_readCraft_213 rfl (lv_at hl 3 rfl) ?_
                      refine lv_if_eq (tgt := 238) hx hb dX6_readCraft_214 (by decide) (fun c_214 => ?_) (fun c_214 => absurd c_214 (by decide))
                      refine lv_aload_n hx hb dX6_readCraft_238 rfl (lv_at hl 1 rfl) ?_
                      refine g_get (TT := TX6) hc hw inX6_readCraft_X6 0 9 6 rfl rfl (by decide) rfl rfl dX6_readCraft_239 ?_
                      refine lv_iconst (v := 3) hx hb dX6_readCraft_242 (by decide) ?_
                      refine lv_aload_n hx hb dX6_readCraft_243 rfl (lv_at hl 1 rfl) ?_
                      refine g_get (TT := TX6) hc hw inX6_readCraft_X6 0 8 3 rfl rfl (by decide) rfl rfl dX6_readCraft_244 ?_
                      refine lv_imul hx hb dX6_readCraft_247 ?_
                      refine lv_iload_n hx hb dX6_readCraft_248 rfl (lv_at hl 4 rfl) ?_
                      refine lv_iadd hx hb dX6_readCraft_249 ?_
                      refine lv_iload hx hb dX6_readCraft_250 (lv_at hl 0 rfl) ?_
                      refine g_ist hc hw 3 (3 * cfN tt (6 + 7 * q9) + k3) rfl (n_add (n_mul rfl rfl) rfl) (by have := hok9; omega) (by decide) dX6_readCraft_252 (fun H locs hw => ?_)
                      have hw : g_W D A s [(o, .inr (6, [u0, .ref tx, .int (nI len), u3, u4, u5, u6, .int (nI (cwN tt (6 + 7 * q9))), .int (nI (cfN tt (6 + 7 * q9))), .ref ra, .ref rp, u11, u12, u13, u14, u15, u16, u17, u18, u19, u20, u21, u22, u23, u24, u25, u26, u27, u28, u29, u30, u31, u32, u33, u34, u35])), (tx, .inl (E 0, 120, .inl (txF tt))), (rp, .inl (E 0, 29, .inl (pgF (rcS tt q9)))), (ra, .inl (E 0, 18, .inl (upd (rtP (flN tt gg9 q9) tt (6 + 7 * q9 + 1) (cfN tt (6 + 7 * q9)) k3) (3 * cfN tt (6 + 7 * q9) + k3) (trF tt (6 + 7 * q9 + 1) k3))))] H locs := hw
                      refine lv_iinc (v := nI (k3 + 1)) (lv' := [(3, .int (nI (k3 + 1))), (4, .int (trF tt (6 + 7 * q9 + 1) k3)), (0, .ref o), (1, .int (nI (6 + 7 * q9))), (2, .int 0)]) hx hb dX6_readCraft_253 hl (k := 4) rfl (n_inc1 rfl) (by decide) rfl (fun ls hl => ?_)
                      refine lv_goto (tgt := 195) hx hb dX6_readCraft_256 (by decide) ?_
                      have hw : g_W D A s [(o, .inr (6, [u0, .ref tx, .int (nI len), u3, u4, u5, u6, .int (nI (cwN tt (6 + 7 * q9))), .int (nI (cfN tt (6 + 7 * q9))), .ref ra, .ref rp, u11, u12, u13, u14, u15, u16, u17, u18, u19, u20, u21, u22, u23, u24, u25, u26, u27, u28, u29, u30, u31, u32, u33, u34, u35])), (tx, .inl (E 0, 120, .inl (txF tt))), (rp, .inl (E 0, 29, .inl (pgF (rcS tt q9)))), (ra, .inl (E 0, 18, .inl (rtP (flN tt gg9 q9) tt (6 + 7 * q9 + 1) (cfN tt (6 + 7 * q9)) (k3 + 1))))] H locs := by
                        have e3 : (upd (rtP (flN tt gg9 q9) tt (6 + 7 * q9 + 1) (cfN tt (6 + 7 * q9)) k3) (3 * cfN tt (6 + 7 * q9) + k3) (trF tt (6 + 7 * q9 + 1) k3)) = (rtP (flN tt gg9 q9) tt (6 + 7 * q9 + 1) (cfN tt (6 + 7 * q9)) (k3 + 1)) := by rw [show 3 * cfN tt (6 + 7 * q9) + k3 = cfN tt (6 + 7 * q9) * 3 + k3 by omega]; exact rt_s _ _ _ _ _ rfl
                        rw [e3] at hw
                        exact hw
                      exact ih (k3 + 1) (by omega)   _ _ _ hw (lv_sub hl [2, 3, 4, 0] rfl)
                  have hw : g_W D A s [(o, .inr (6, [u0, .ref tx, .int (nI len), u3, u4, u5, u6, .int (nI (cwN tt (6 + 7 * q9))), .int (nI (cfN tt (6 + 7 * q9))), .ref ra, .ref rp, u11, u12, u13, u14, u15, u16, u17, u18, u19, u20, u21, u22, u23, u24, u25, u26, u27, u28, u29, u30, u31, u32, u33, u34, u35])), (tx, .inl (E 0, 120, .inl (txF tt))), (rp, .inl (E 0, 29, .inl (pgF (rcS tt q9)))), (ra, .inl (E 0, 18, .inl (rtP (flN tt gg9 q9) tt (6 + 7 * q9 + 1) (cfN tt (6 + 7 * q9)) 0)))] H locs := by
                    have e3 : (flN tt gg9 q9) = (rtP (flN tt gg9 q9) tt (6 + 7 * q9 + 1) (cfN tt (6 + 7 * q9)) 0) := by exact rt_0 _ _ _ _
                    rw [e3] at hw
                    exact hw
                  exact J195 3 0 (by omega)   _ _ _ hw (lv_sub hl [2, 3, 1, 0] rfl)
                · skip
                  have n_184 : (tt (6 + 7 * q9)) = 119 := nf_neF rfl rfl (by omega) (by omega) c_184
                  refine lv_iconst (v := 1) hx hb dX6_readCraft_187 (by decide) ?_
                  refine lv_goto (tgt := 192) hx hb dX6_readCraft_188 (by decide) ?_
                  refine lv_istore_n (lv' := [(2, .int 1), (0, .ref o), (1, .int (nI (6 + 7 * q9)))]) hx hb dX6_readCraft_192 rfl hl (by decide) rfl (fun ls hl => ?_)
                  refine lv_iconst (v := 0) hx hb dX6_readCraft_193 (by decide) ?_
                  refine lv_istore_n (lv' := [(3, .int 0), (2, .int 1), (0, .ref o), (1, .int (nI (6 + 7 * q9)))]) hx hb dX6_readCraft_194 rfl hl (by decide) rfl (fun ls hl => ?_)
                  have J195 : ∀ (k9 : Nat) (k3 : Nat), k3 + k9 = 3 → ∀ (H : Heap) (locs : List Loc) (ls : Array Slot), g_W D A s [(o, .inr (6, [u0, .ref tx, .int (nI len), u3, u4, u5, u6, .int (nI (cwN tt (6 + 7 * q9))), .int (nI (cfN tt (6 + 7 * q9))), .ref ra, .ref rp, u11, u12, u13, u14, u15, u16, u17, u18, u19, u20, u21, u22, u23, u24, u25, u26, u27, u28, u29, u30, u31, u32, u33, u34, u35])), (tx, .inl (E 0, 120, .inl (txF tt))), (rp, .inl (E 0, 29, .inl (pgF (wW (rcS tt q9) (rtP (wtN tt (fun _ => 0) q9) tt (6 + 7 * q9 + 1) (cwN tt (6 + 7 * q9)) k3))))), (ra, .inl (E 0, 18, .inl (flN tt gg9 q9)))] H locs → lv_has ls 5 [(0, .ref o), (1, .int (nI (6 + 7 * q9))), (2, .int 1), (3, .int (nI k3))] → W p l e R s m args below meth c H locs 0 0 Q (F0 m 195 ls []) := by
                    intro k9
                    induction k9 with
                    | zero =>
                      intro k3 h9   H locs ls hw hl
                      have h9 : k3 = 3 := h9
                      subst h9
                      refine lv_iload_n hx hb dX6_readCraft_195 rfl (lv_at hl 3 rfl) ?_
                      refine lv_iconst (v := 3) hx hb dX6_readCraft_196 (by decide) ?_
                      refine lv_icmp_ge (tgt := 259) hx hb dX6_readCraft_197 (by decide) (fun c_197 => ?_) (fun c_197 => absurd (by first | exact Int32.le_refl _ | decide) c_197)
                      refine lv_aload_n hx hb dX6_readCraft_259 rfl (lv_at hl 0 rfl) ?_
                      refine lv_dup hx hb dX6_readCraft_260 rfl ?_
                      refine g_get (TT := TX6) hc hw inX6_readCraft_X6 0 7 2 rfl rfl (by decide) rfl rfl dX6_readCraft_261 ?_
                      refine lv_iload_n hx hb dX6_readCraft_264 rfl (lv_at hl 2 rfl) ?_
                      refine lv_if_eq (tgt := 272) hx hb dX6_readCraft_265 (by decide) (fun c_265 => absurd c_265 (by decide)) (fun c_265 => ?_)
                      refine lv_iconst (v := 1) hx hb dX6_readCraft_268 (by decide) ?_
                      refine lv_goto (tgt := 273) hx hb dX6_readCraft_269 (by decide) ?_
                      refine lv_iadd hx hb dX6_readCraft_273 ?_
                      refine W.eq (congrArg (fun z => F0 m 274 ls (.int z :: [.ref o])) (show ((nI (cwN tt (6 + 7 * q9))) + 1 : Int32) = nI (cwN tt (6 + 7 * q9) + 1) from (n_add rfl rfl))) ?_
                      refine g_put (TT := TX6) hc hw inX6_readCraft_X6 tyX6 tyX6_ok nmX6 0 7 2 rfl rfl (by decide) rfl rfl rfl rfl (Nat.le_of_ble_eq_true rfl) dX6_readCraft_274 (fun H locs hw => ?_)
                      have hw : g_W D A s [(o, .inr (6, [u0, .ref tx, .int (nI len), u3, u4, u5, u6, .int (nI (cwN tt (6 + 7 * q9) + 1)), .int (nI (cfN tt (6 + 7 * q9))), .ref ra, .ref rp, u11, u12, u13, u14, u15, u16, u17, u18, u19, u20, u21, u22, u23, u24, u25, u26, u27, u28, u29, u30, u31, u32, u33, u34, u35])), (tx, .inl (E 0, 120, .inl (txF tt))), (rp, .inl (E 0, 29, .inl (pgF (wW (rcS tt q9) (rtP (wtN tt (fun _ => 0) q9) tt (6 + 7 * q9 + 1) (cwN tt (6 + 7 * q9)) 3))))), (ra, .inl (E 0, 18, .inl (flN tt gg9 q9)))] H locs := hw
                      refine lv_aload_n hx hb dX6_readCraft_277 rfl (lv_at hl 0 rfl) ?_
                      refine lv_dup hx hb dX6_readCraft_278 rfl ?_
                      refine g_get (TT := TX6) hc hw inX6_readCraft_X6 0 8 3 rfl rfl (by decide) rfl rfl dX6_readCraft_279 ?_
                      refine lv_iload_n hx hb dX6_readCraft_282 rfl (lv_at hl 2 rfl) ?_
                      refine lv_if_eq (tgt := 290) hx hb dX6_readCraft_283 (by decide) (fun c_283 => absurd c_283 (by decide)) (fun c_283 => ?_)
                      refine lv_iconst (v := 0) hx hb dX6_readCraft_286 (by decide) ?_
                      refine lv_goto (tgt := 291) hx hb dX6_readCraft_287 (by decide) ?_
                      refine lv_iadd hx hb dX6_readCraft_291 ?_
                      refine W.eq (congrArg (fun z => F0 m 292 ls (.int z :: [.ref o])) (show ((nI (cfN tt (6 + 7 * q9))) + 0 : Int32) = nI (cfN tt (6 + 7 * q9) + 0) from (n_add rfl rfl))) ?_
                      refine g_put (TT := TX6) hc hw inX6_readCraft_X6 tyX6 tyX6_ok nmX6 0 8 3 rfl rfl (by decide) rfl rfl rfl rfl (Nat.le_of_ble_eq_true rfl) dX6_readCraft_292 (fun H locs hw => ?_)
                      have hw : g_W D A s [(o, .inr (6, [u0, .ref tx, .int (nI len), u3, u4, u5, u6, .int (nI (cwN tt (6 + 7 * q9) + 1)), .int (nI (cfN tt (6 + 7 * q9) + 0)), .ref ra, .ref rp, u11, u12, u13, u14, u15, u16, u17, u18, u19, u20, u21, u22, u23, u24, u25, u26, u27, u28, u29, u30, u31, u32, u33, u34, u35])), (tx, .inl (E 0, 120, .inl (txF tt))), (rp, .inl (E 0, 29, .inl (pgF (wW (rcS tt q9) (rtP (wtN tt (fun _ => 0) q9) tt (6 + 7 * q9 + 1) (cwN tt (6 + 7 * q9)) 3))))), (ra, .inl (E 0, 18, .inl (flN tt gg9 q9)))] H locs := hw
                      refine lv_iinc (v := nI ((6 + 7 * q9) + 7)) (lv' := [(1, .int (nI ((6 + 7 * q9) + 7))), (0, .ref o), (2, .int 1), (3, .int (nI 3))]) hx hb dX6_readCraft_295 hl (k := 1) rfl (n_inc7 rfl) (by decide) rfl (fun ls hl => ?_)
                      refine lv_goto (tgt := 129) hx hb dX6_readCraft_298 (by decide) ?_
                      have hw : g_W D A s [(o, .inr (6, [u0, .ref tx, .int (nI len), u3, u4, u5, u6, .int (nI (cwN tt (6 + 7 * (q9 + 1)))), .int (nI (cfN tt (6 + 7 * (q9 + 1)))), .ref ra, .ref rp, u11, u12, u13, u14, u15, u16, u17, u18, u19, u20, u21, u22, u23, u24, u25, u26, u27, u28, u29, u30, u31, u32, u33, u34, u35])), (tx, .inl (E 0, 120, .inl (txF tt))), (rp, .inl (E 0, 29, .inl (pgF (rcS tt (q9 + 1))))), (ra, .inl (E 0, 18, .inl (flN tt gg9 (q9 + 1))))] H locs := by rw [show cwN tt (6 + 7 * (q9 + 1)) = _ from (cw7_w n_184).symm, show cfN tt (6 + 7 * (q9 + 1)) = _ from (cf7_w n_184).symm, show flN tt gg9 (q9 + 1) = _ from (fl_w n_184).symm, show rcS tt (q9 + 1) = _ from rc_w n_184]; exact hw
                      have hl := lv_conv hl 0 rfl (v' := (.int (nI (6 + 7 * (q9 + 1))))) (by exact congrArg (fun z => Value.int (nI z)) (show 6 + 7 * q9 + 7 = 6 + 7 * (q9 + 1) by omega))
                      have hl : lv_has ls 5 [(1, .int (nI (6 + 7 * (q9 + 1)))), (0, .ref o), (2, .int 1), (3, .int (nI 3))] := hl
                      exact ih (q9 + 1) (by omega)  (by rw [show 6 + 7 * (q9 + 1) = 6 + 7 * q9 + 7 by omega]; exact hall9) (by omega) (by rw [← cw7_w n_184]; omega) (by rw [← cf7_w n_184]; omega) _ _ _ hw (lv_sub hl [1, 0] rfl)
                    | succ k9 ih =>
                      intro k3 h9   H locs ls hw hl
                      have h9b : k3 < 3 := by omega
                      refine lv_iload_n hx hb dX6_readCraft_195 rfl (lv_at hl 3 rfl) ?_
                      refine lv_iconst (v := 3) hx hb dX6_readCraft_196 (by decide) ?_
                      refine lv_icmp_ge (tgt := 259) hx hb dX6_readCraft_197 (by decide) (fun c_197 => absurd c_197 (nI_ge h9b (by decide))) (fun c_197 => ?_)
                      refine lv_aload_n hx hb dX6_readCraft_200 rfl (lv_at hl 0 rfl) ?_
                      refine lv_iload_n hx hb dX6_readCraft_201 rfl (lv_at hl 1 rfl) ?_
                      refine lv_iconst (v := 1) hx hb dX6_readCraft_202 (by decide) ?_
                      refine lv_iadd hx hb dX6_readCraft_203 ?_
                      refine lv_iconst (v := 2) hx hb dX6_readCraft_204 (by decide) ?_
                      refine lv_iload_n hx hb dX6_readCraft_205 rfl (lv_at hl 3 rfl) ?_
                      refine lv_imul hx hb dX6_readCraft_206 ?_
                      refine lv_iadd hx hb dX6_readCraft_207 ?_
                      refine W.eq (congrArg (fun z => F0 m 208 ls (.int z :: [.ref o])) (show (((nI (6 + 7 * q9)) + 1) + (2 * (nI k3)) : Int32) = nI (6 + 7 * q9 + 1 + 2 * k3) from (n_add (n_add rfl rfl) (n_mul rfl rfl)))) ?_
                      refine g_cV (As := [.int (nI (6 + 7 * q9 + 1 + 2 * k3))]) (n := 1) (rest := []) (wc := [(o, .inr (6, [u0, .ref tx, .int (nI len), u3, u4, u5, u6, .int (nI (cwN tt (6 + 7 * q9))), .int (nI (cfN tt (6 + 7 * q9))), .ref ra, .ref rp, u11, u12, u13, u14, u15, u16, u17, u18, u19, u20, u21, u22, u23, u24, u25, u26, u27, u28, u29, u30, u31, u32, u33, u34, u35])), (tx, .inl (E 0, 120, .inl (txF tt)))]) (w1 := [(o, .inr (6, [u0, .ref tx, .int (nI len), u3, u4, u5, u6, .int (nI (cwN tt (6 + 7 * q9))), .int (nI (cfN tt (6 + 7 * q9))), .ref ra, .ref rp, u11, u12, u13, u14, u15, u16, u17, u18, u19, u20, u21, u22, u23, u24, u25, u26, u27, u28, u29, u30, u31, u32, u33, u34, u35])), (tx, .inl (E 0, 120, .inl (txF tt)))]) (bytes := cX6_number) (maxL := 2) (ret := (some .int)) hc hw hl.1 (m_X6_number (l := l) (D := D) (E := E) (T := T) o tx (6 + 7 * q9 + 1 + 2 * k3) u0 (.int (nI len)) u3 u4 u5 u6 (.int (nI (cwN tt (6 + 7 * q9)))) (.int (nI (cfN tt (6 + 7 * q9)))) (.ref ra) (.ref rp) u11 u12 u13 u14 u15 u16 u17 u18 u19 u20 u21 u22 u23 u24 u25 u26 u27 u28 u29 u30 u31 u32 u33 u34 u35 tt (by omega) (by first | assumption | omega | decide)) gX6_readCraft_X6_number rfl (by decide +kernel) (by rw [hR]; exact ⟨Nat.le_of_ble_eq_true rfl, Nat.le_of_ble_eq_true rfl⟩) [0, 1] 0 6 rfl rfl (by decide) rfl [o, tx] rfl rfl rfl rfl (Nat.le_of_ble_eq_true rfl) dX6_readCraft_208 ⟨Nat.zero_le _, Nat.zero_le _⟩ (fun H locs hw => ?_)
                      have hw : g_W D A s [(o, .inr (6, [u0, .ref tx, .int (nI len), u3, u4, u5, u6, .int (nI (cwN tt (6 + 7 * q9))), .int (nI (cfN tt (6 + 7 * q9))), .ref ra, .ref rp, u11, u12, u13, u14, u15, u16, u17, u18, u19, u20, u21, u22, u23, u24, u25, u26, u27, u28, u29, u30, u31, u32, u33, u34, u35])), (tx, .inl (E 0, 120, .inl (txF tt))), (rp, .inl (E 0, 29, .inl (pgF (wW (rcS tt q9) (rtP (wtN tt (fun _ => 0) q9) tt (6 + 7 * q9 + 1) (cwN tt (6 + 7 * q9)) k3))))), (ra, .inl (E 0, 18, .inl (flN tt gg9 q9)))] H locs := hw
                      refine W.eq (congrArg (fun z => F0 m 211 ls (.int z :: [])) (show (nuF tt (6 + 7 * q9 + 1 + 2 * k3) : Int32) = trF tt (6 + 7 * q9 + 1) k3 from rfl)) ?_
                      refine lv_istore (lv' := [(4, .int (trF tt (6 + 7 * q9 + 1) k3)), (0, .ref o), (1, .int (nI (6 + 7 * q9))), (2, .int 1), (3, .int (nI k3))]) hx hb dX6_readCraft_211 hl (by decide) rfl (fun ls hl => ?_)
                      refine lv_iload_n hx hb dX6_readCraft_213 rfl (lv_at hl 3 rfl) ?_
                      refine lv_if_eq (tgt := 238) hx hb dX6_readCraft_214 (by decide) (fun c_214 => absurd c_214 (by decide)) (fun c_214 => ?_)
                      refine lv_aload_n hx hb dX6_readCraft_217 rfl (lv_at hl 1 rfl) ?_
                      refine g_get (TT := TX6) hc hw inX6_readCraft_X6 0 10 1 rfl rfl (by decide) rfl rfl dX6_readCraft_218 ?_
                      refine lv_bipush (v := 11) hx hb dX6_readCraft_221 (by decide) ?_
                      refine lv_iconst (v := 3) hx hb dX6_readCraft_223 (by decide) ?_
                      refine lv_aload_n hx hb dX6_readCraft_224 rfl (lv_at hl 1 rfl) ?_
                      refine g_get (TT := TX6) hc hw inX6_readCraft_X6 0 7 2 rfl rfl (by decide) rfl rfl dX6_readCraft_225 ?_
                      refine lv_imul hx hb dX6_readCraft_228 ?_
                      refine lv_iadd hx hb dX6_readCraft_229 ?_
                      refine lv_iload_n hx hb dX6_readCraft_230 rfl (lv_at hl 4 rfl) ?_
                      refine lv_iadd hx hb dX6_readCraft_231 ?_
                      refine lv_iload hx hb dX6_readCraft_232 (lv_at hl 0 rfl) ?_
                      refine g_ist hc hw 2 (11 + 3 * cwN tt (6 + 7 * q9) + k3) rfl (n_add (n_add rfl (n_mul rfl rfl)) rfl) (by have := hok9; omega) (by decide) dX6_readCraft_234 (fun H locs hw => ?_)
                      have hw : g_W D A s [(o, .inr (6, [u0, .ref tx, .int (nI len), u3, u4, u5, u6, .int (nI (cwN tt (6 + 7 * q9))), .int (nI (cfN tt (6 + 7 * q9))), .ref ra, .ref rp, u11, u12, u13, u14, u15, u16, u17, u18, u19, u20, u21, u22, u23, u24, u25, u26, u27, u28, u29, u30, u31, u32, u33, u34, u35])), (tx, .inl (E 0, 120, .inl (txF tt))), (rp, .inl (E 0, 29, .inl (upd (pgF (wW (rcS tt q9) (rtP (wtN tt (fun _ => 0) q9) tt (6 + 7 * q9 + 1) (cwN tt (6 + 7 * q9)) k3))) (11 + 3 * cwN tt (6 + 7 * q9) + k3) (trF tt (6 + 7 * q9 + 1) k3)))), (ra, .inl (E 0, 18, .inl (flN tt gg9 q9)))] H locs := hw
                      refine lv_goto (tgt := 253) hx hb dX6_readCraft_235 (by decide) ?_
                      refine lv_iinc (v := nI (k3 + 1)) (lv' := [(3, .int (nI (k3 + 1))), (4, .int (trF tt (6 + 7 * q9 + 1) k3)), (0, .ref o), (1, .int (nI (6 + 7 * q9))), (2, .int 1)]) hx hb dX6_readCraft_253 hl (k := 4) rfl (n_inc1 rfl) (by decide) rfl (fun ls hl => ?_)
                      refine lv_goto (tgt := 195) hx hb dX6_readCraft_256 (by decide) ?_
                      have hw : g_W D A s [(o, .inr (6, [u0, .ref tx, .int (nI len), u3, u4, u5, u6, .int (nI (cwN tt (6 + 7 * q9))), .int (nI (cfN tt (6 + 7 * q9))), .ref ra, .ref rp, u11, u12, u13, u14, u15, u16, u17, u18, u19, u20, u21, u22, u23, u24, u25, u26, u27, u28, u29, u30, u31, u32, u33, u34, u35])), (tx, .inl (E 0, 120, .inl (txF tt))), (rp, .inl (E 0, 29, .inl (pgF (wW (rcS tt q9) (rtP (wtN tt (fun _ => 0) q9) tt (6 + 7 * q9 + 1) (cwN tt (6 + 7 * q9)) (k3 + 1)))))), (ra, .inl (E 0, 18, .inl (flN tt gg9 q9)))] H locs := by
                        have e2 : (upd (pgF (wW (rcS tt q9) (rtP (wtN tt (fun _ => 0) q9) tt (6 + 7 * q9 + 1) (cwN tt (6 + 7 * q9)) k3))) (11 + 3 * cwN tt (6 + 7 * q9) + k3) (trF tt (6 + 7 * q9 + 1) k3)) = (pgF (wW (rcS tt q9) (rtP (wtN tt (fun _ => 0) q9) tt (6 + 7 * q9 + 1) (cwN tt (6 + 7 * q9)) (k3 + 1)))) := by exact rc_rs tt q9 k3 rfl
                        rw [e2] at hw
                        exact hw
                      exact ih (k3 + 1) (by omega)   _ _ _ hw (lv_sub hl [2, 3, 4, 0] rfl)
                  have hw : g_W D A s [(o, .inr (6, [u0, .ref tx, .int (nI len), u3, u4, u5, u6, .int (nI (cwN tt (6 + 7 * q9))), .int (nI (cfN tt (6 + 7 * q9))), .ref ra, .ref rp, u11, u12, u13, u14, u15, u16, u17, u18, u19, u20, u21, u22, u23, u24, u25, u26, u27, u28, u29, u30, u31, u32, u33, u34, u35])), (tx, .inl (E 0, 120, .inl (txF tt))), (rp, .inl (E 0, 29, .inl (pgF (wW (rcS tt q9) (rtP (wtN tt (fun _ => 0) q9) tt (6 + 7 * q9 + 1) (cwN tt (6 + 7 * q9)) 0))))), (ra, .inl (E 0, 18, .inl (flN tt gg9 q9)))] H locs := by
                    have e2 : (pgF (rcS tt q9)) = (pgF (wW (rcS tt q9) (rtP (wtN tt (fun _ => 0) q9) tt (6 + 7 * q9 + 1) (cwN tt (6 + 7 * q9)) 0))) := by exact rc_r0 tt q9
                    rw [e2] at hw
                    exact hw
                  exact J195 3 0 (by omega)   _ _ _ hw (lv_sub hl [2, 3, 1, 0] rfl)
              | succ k9 ih =>
                intro a9 h9  hall9 hal H locs ls hw hl
                have h9b : a9 < 7 := by omega
                refine lv_iload_n hx hb dX6_readCraft_139 rfl (lv_at hl 2 rfl) ?_
                refine lv_bipush (v := 7) hx hb dX6_readCraft_140 (by decide) ?_
                refine lv_icmp_ge (tgt := 176) hx hb dX6_readCraft_142 (by decide) (fun c_142 => absurd c_142 (nI_ge h9b (by decide))) (fun c_142 => ?_)
                refine lv_iload_n hx hb dX6_readCraft_145 rfl (lv_at hl 1 rfl) ?_
                refine lv_iload_n hx hb dX6_readCraft_146 rfl (lv_at hl 2 rfl) ?_
                refine lv_iadd hx hb dX6_readCraft_147 ?_
                refine lv_aload_n hx hb dX6_readCraft_148 rfl (lv_at hl 0 rfl) ?_
                refine g_get (TT := TX6) hc hw inX6_readCraft_X6 0 2 4 rfl rfl (by decide) rfl rfl dX6_readCraft_149 ?_
                refine lv_icmp_eq (tgt := 166) hx hb dX6_readCraft_152 (by decide) (fun c_152 => ?_) (fun c_152 => ?_)
                · skip
                  have n_152 : ((6 + 7 * q9) + a9) = len := nf_eqT (n_add rfl rfl) rfl (by omega) (by omega) c_152
                  refine lv_iload_n hx hb dX6_readCraft_166 rfl (lv_at hl 1 rfl) ?_
                  refine lv_iload_n hx hb dX6_readCraft_167 rfl (lv_at hl 2 rfl) ?_
                  refine lv_iadd hx hb dX6_readCraft_168 ?_
                  refine W.eq (congrArg (fun z => F0 m 169 ls (.int z :: [])) (show ((nI (6 + 7 * q9)) + (nI a9) : Int32) = nI (6 + 7 * q9 + a9) from (n_add rfl rfl))) ?_
                  have he9 : enN tt len = 6 + 7 * q9 + a9 := (en_all (by rw [← n_152]; exact hall9)).trans n_152.symm
                  exact g_iret hQ hc hw hr (by exact congrArg (fun z => some (Value.int z)) (by rw [← n_152]; exact ft_len hall9 (by unfold stP; omega))) (by rw [he9, rcW_1 _ _ (by omega), rcF_1 _ _ (by omega), rcP_1 _ _ (by omega), rcG_1 _ _ _ (by omega)]) dX6_readCraft_169
                · skip
                  have n_152 : ¬ ((6 + 7 * q9) + a9) = len := nf_eqF (n_add rfl rfl) rfl (by omega) (by omega) c_152
                  refine lv_aload_n hx hb dX6_readCraft_155 rfl (lv_at hl 0 rfl) ?_
                  refine lv_iload_n hx hb dX6_readCraft_156 rfl (lv_at hl 1 rfl) ?_
                  refine lv_iload_n hx hb dX6_readCraft_157 rfl (lv_at hl 2 rfl) ?_
                  refine lv_iadd hx hb dX6_readCraft_158 ?_
                  refine W.eq (congrArg (fun z => F0 m 159 ls (.int z :: [.ref o])) (show ((nI (6 + 7 * q9)) + (nI a9) : Int32) = nI (6 + 7 * q9 + a9) from (n_add rfl rfl))) ?_
                  refine lv_iload_n hx hb dX6_readCraft_159 rfl (lv_at hl 2 rfl) ?_
                  refine g_cV (As := [.int (nI (6 + 7 * q9 + a9)), .int (nI a9)]) (n := 2) (rest := []) (wc := [(o, .inr (6, [u0, .ref tx, .int (nI len), u3, u4, u5, u6, .int (nI (cwN tt (6 + 7 * q9))), .int (nI (cfN tt (6 + 7 * q9))), .ref ra, .ref rp, u11, u12, u13, u14, u15, u16, u17, u18, u19, u20, u21, u22, u23, u24, u25, u26, u27, u28, u29, u30, u31, u32, u33, u34, u35])), (tx, .inl (E 0, 120, .inl (txF tt)))]) (w1 := [(o, .inr (6, [u0, .ref tx, .int (nI len), u3, u4, u5, u6, .int (nI (cwN tt (6 + 7 * q9))), .int (nI (cfN tt (6 + 7 * q9))), .ref ra, .ref rp, u11, u12, u13, u14, u15, u16, u17, u18, u19, u20, u21, u22, u23, u24, u25, u26, u27, u28, u29, u30, u31, u32, u33, u34, u35])), (tx, .inl (E 0, 120, .inl (txF tt)))]) (bytes := cX6_isPart) (maxL := 3) (ret := (some .boolean)) hc hw hl.1 (m_X6_isPart (l := l) (D := D) (E := E) (T := T) o tx (6 + 7 * q9 + a9) a9 (cwN tt (6 + 7 * q9)) (cfN tt (6 + 7 * q9)) u0 (.int (nI len)) u3 u4 u5 u6 (.ref ra) (.ref rp) u11 u12 u13 u14 u15 u16 u17 u18 u19 u20 u21 u22 u23 u24 u25 u26 u27 u28 u29 u30 u31 u32 u33 u34 u35 tt (by omega) (by omega) hcw hcf (by first | assumption | omega | decide)) gX6_readCraft_X6_isPart rfl (by decide +kernel) (by rw [hR]; exact ⟨Nat.le_of_ble_eq_true rfl, Nat.le_of_ble_eq_true rfl⟩) [0, 1] 0 6 rfl rfl (by decide) rfl [o, tx] rfl rfl rfl rfl (Nat.le_of_ble_eq_true rfl) dX6_readCraft_160 ⟨Nat.zero_le _, Nat.zero_le _⟩ (fun H locs hw => ?_)
                  have hw : g_W D A s [(o, .inr (6, [u0, .ref tx, .int (nI len), u3, u4, u5, u6, .int (nI (cwN tt (6 + 7 * q9))), .int (nI (cfN tt (6 + 7 * q9))), .ref ra, .ref rp, u11, u12, u13, u14, u15, u16, u17, u18, u19, u20, u21, u22, u23, u24, u25, u26, u27, u28, u29, u30, u31, u32, u33, u34, u35])), (tx, .inl (E 0, 120, .inl (txF tt))), (rp, .inl (E 0, 29, .inl (pgF (rcS tt q9)))), (ra, .inl (E 0, 18, .inl (flN tt gg9 q9)))] H locs := hw
                  refine lv_if_ne (tgt := 170) hx hb dX6_readCraft_163 (by decide) (fun c_163 => ?_) (fun c_163 => ?_)
                  · skip
                    have k_163 := b2i_ne c_163
                    refine lv_iinc (v := nI (a9 + 1)) (lv' := [(2, .int (nI (a9 + 1))), (0, .ref o), (1, .int (nI (6 + 7 * q9)))]) hx hb dX6_readCraft_170 hl (k := 2) rfl (n_inc1 rfl) (by decide) rfl (fun ls hl => ?_)
                    refine lv_goto (tgt := 139) hx hb dX6_readCraft_173 (by decide) ?_
                    exact ih (a9 + 1) (by omega)  (all_s hall9 ((pt_ok (by omega)).mp (of_decide_eq_true k_163))) (by omega) _ _ _ hw (lv_sub hl [1, 2, 0] rfl)
                  · skip
                    have k_163 := b2i_eq c_163
                    refine lv_iload_n hx hb dX6_readCraft_166 rfl (lv_at hl 1 rfl) ?_
                    refine lv_iload_n hx hb dX6_readCraft_167 rfl (lv_at hl 2 rfl) ?_
                    refine lv_iadd hx hb dX6_readCraft_168 ?_
                    refine W.eq (congrArg (fun z => F0 m 169 ls (.int z :: [])) (show ((nI (6 + 7 * q9)) + (nI a9) : Int32) = nI (6 + 7 * q9 + a9) from (n_add rfl rfl))) ?_
                    have hb9 : ¬ okP tt (6 + 7 * q9 + a9) := fun q => (of_decide_eq_false k_163) ((pt_ok (by omega)).mpr q)
                    have he9 : enN tt len = 6 + 7 * q9 + a9 := en_bad hall9 hb9 (by omega)
                    exact g_iret hQ hc hw hr (by exact congrArg (fun z => some (Value.int z)) (ft_bad hall9 hb9 (by omega))) (by rw [he9, rcW_1 _ _ (by omega), rcF_1 _ _ (by omega), rcP_1 _ _ (by omega), rcG_1 _ _ _ (by omega)]) dX6_readCraft_169
            exact J139 7 0 (by omega)  hall hfl _ _ _ hw (lv_sub hl [1, 2, 0] rfl)
      have hw : g_W D A s [(o, .inr (6, [u0, .ref tx, .int (nI len), u3, u4, u5, u6, .int (nI (cwN tt (6 + 7 * 0))), .int (nI (cfN tt (6 + 7 * 0))), .ref ra, .ref rp, u11, u12, u13, u14, u15, u16, u17, u18, u19, u20, u21, u22, u23, u24, u25, u26, u27, u28, u29, u30, u31, u32, u33, u34, u35])), (tx, .inl (E 0, 120, .inl (txF tt))), (rp, .inl (E 0, 29, .inl (pgF (rcS tt 0)))), (ra, .inl (E 0, 18, .inl (flN tt gg9 0)))] H locs := by have hw := g_reI (q0 := 2) (g := pgF (rcS tt 0)) hw rfl (rc_00 tt); have e1 : nI (cfN tt (6 + 7 * 0)) = 0 := (by rw [Nat.mul_zero, cf_6]; rfl); have e2 : nI (cwN tt (6 + 7 * 0)) = 0 := (by rw [Nat.mul_zero, cw_6]; rfl); rw [e1, e2]; exact hw
      have hl := lv_conv hl 0 rfl (v' := (.int (nI (6 + 7 * 0)))) (by rfl)
      have hl : lv_has ls 5 [(1, .int (nI (6 + 7 * 0))), (0, .ref o)] := hl
      exact J129 17 0 (by omega)  hall (by omega) (by rw [Nat.mul_zero, cw_6]; omega) (by rw [Nat.mul_zero, cf_6]; omega) _ _ _ hw (lv_sub hl [1, 0] rfl)
    | succ k9 ih =>
      intro i h9  hall hil H locs ls hw hl
      have h9b : i < 6 := by omega
      refine lv_iload_n hx hb dX6_readCraft_19 rfl (lv_at hl 1 rfl) ?_
      refine lv_bipush (v := 6) hx hb dX6_readCraft_20 (by decide) ?_
      refine lv_icmp_ge (tgt := 49) hx hb dX6_readCraft_22 (by decide) (fun c_22 => absurd c_22 (nI_ge h9b (by decide))) (fun c_22 => ?_)
      refine lv_iload_n hx hb dX6_readCraft_25 rfl (lv_at hl 1 rfl) ?_
      refine lv_aload_n hx hb dX6_readCraft_26 rfl (lv_at hl 0 rfl) ?_
      refine g_get (TT := TX6) hc hw inX6_readCraft_X6 0 2 4 rfl rfl (by decide) rfl rfl dX6_readCraft_27 ?_
      refine lv_icmp_eq (tgt := 41) hx hb dX6_readCraft_30 (by decide) (fun c_30 => ?_) (fun c_30 => ?_)
      · skip
        have n_30 : i = len := nf_eqT rfl rfl (by omega) (by omega) c_30
        refine lv_iload_n hx hb dX6_readCraft_41 rfl (lv_at hl 1 rfl) ?_
        have he9 : enN tt len = i := (en_all (by rw [← n_30]; exact hall)).trans n_30.symm
        exact g_iret hQ hc hw hr (by exact congrArg (fun z => some (Value.int z)) (by rw [← n_30]; exact ft_len hall (by unfold stP; omega))) (by rw [he9, rcW_0 (by omega), rcF_0 (by omega), rcP_0 (by omega), rcG_0 (by omega)]; rfl) dX6_readCraft_42
      · skip
        have n_30 : ¬ i = len := nf_eqF rfl rfl (by omega) (by omega) c_30
        refine lv_aload_n hx hb dX6_readCraft_33 rfl (lv_at hl 0 rfl) ?_
        refine lv_iload_n hx hb dX6_readCraft_34 rfl (lv_at hl 1 rfl) ?_
        refine g_cV (As := [.int (nI i)]) (n := 1) (rest := []) (wc := [(o, .inr (6, [u0, .ref tx, .int (nI len), u3, u4, u5, u6, .int 0, .int 0, .ref ra, .ref rp, u11, u12, u13, u14, u15, u16, u17, u18, u19, u20, u21, u22, u23, u24, u25, u26, u27, u28, u29, u30, u31, u32, u33, u34, u35])), (tx, .inl (E 0, 120, .inl (txF tt)))]) (w1 := [(o, .inr (6, [u0, .ref tx, .int (nI len), u3, u4, u5, u6, .int 0, .int 0, .ref ra, .ref rp, u11, u12, u13, u14, u15, u16, u17, u18, u19, u20, u21, u22, u23, u24, u25, u26, u27, u28, u29, u30, u31, u32, u33, u34, u35])), (tx, .inl (E 0, 120, .inl (txF tt)))]) (bytes := cX6_isHead) (maxL := 2) (ret := (some .boolean)) hc hw hl.1 (m_X6_isHead (l := l) (D := D) (E := E) (T := T) o tx i u0 (.int (nI len)) u3 u4 u5 u6 (.int 0) (.int 0) (.ref ra) (.ref rp) u11 u12 u13 u14 u15 u16 u17 u18 u19 u20 u21 u22 u23 u24 u25 u26 u27 u28 u29 u30 u31 u32 u33 u34 u35 tt (by omega) (by first | assumption | omega | decide)) gX6_readCraft_X6_isHead rfl (by decide +kernel) (by rw [hR]; exact ⟨Nat.le_of_ble_eq_true rfl, Nat.le_of_ble_eq_true rfl⟩) [0, 1] 0 6 rfl rfl (by decide) rfl [o, tx] rfl rfl rfl rfl (Nat.le_of_ble_eq_true rfl) dX6_readCraft_35 ⟨Nat.zero_le _, Nat.zero_le _⟩ (fun H locs hw => ?_)
        have hw : g_W D A s [(o, .inr (6, [u0, .ref tx, .int (nI len), u3, u4, u5, u6, .int 0, .int 0, .ref ra, .ref rp, u11, u12, u13, u14, u15, u16, u17, u18, u19, u20, u21, u22, u23, u24, u25, u26, u27, u28, u29, u30, u31, u32, u33, u34, u35])), (tx, .inl (E 0, 120, .inl (txF tt))), (rp, .inl (E 0, 29, .inl (pgF iniS))), (ra, .inl (E 0, 18, .inl gg9))] H locs := hw
        refine lv_if_ne (tgt := 43) hx hb dX6_readCraft_38 (by decide) (fun c_38 => ?_) (fun c_38 => ?_)
        · skip
          have k_38 := b2i_ne c_38
          refine lv_iinc (v := nI (i + 1)) (lv' := [(1, .int (nI (i + 1))), (0, .ref o)]) hx hb dX6_readCraft_43 hl (k := 1) rfl (n_inc1 rfl) (by decide) rfl (fun ls hl => ?_)
          refine lv_goto (tgt := 19) hx hb dX6_readCraft_46 (by decide) ?_
          exact ih (i + 1) (by omega)  (all_s hall (Or.inr ⟨by unfold stP; omega, of_decide_eq_true k_38⟩)) (by omega) _ _ _ hw (lv_sub hl [1, 0] rfl)
        · skip
          have k_38 := b2i_eq c_38
          refine lv_iload_n hx hb dX6_readCraft_41 rfl (lv_at hl 1 rfl) ?_
          have hb9 : ¬ okP tt i := fun q => (of_decide_eq_false k_38) (q.elim (fun z => by have := z.1; unfold stP at this; omega) (fun z => z.2))
          have he9 : enN tt len = i := en_bad hall hb9 (by omega)
          exact g_iret hQ hc hw hr (by exact congrArg (fun z => some (Value.int z)) (ft_bad hall hb9 (by omega))) (by rw [he9, rcW_0 (by omega), rcF_0 (by omega), rcP_0 (by omega), rcG_0 (by omega)]; rfl) dX6_readCraft_42
  exact J19 6 0 (by omega)  (fun j hj => absurd hj (Nat.not_lt_zero j)) (Nat.zero_le _) _ _ _ hw (lv_sub hl [1, 0] rfl)

theorem dX6_fault_0 : decode cX6_fault 0 = .ok (.aload_n 0, 1) := by decide +kernel
theorem dX6_fault_1 : decode cX6_fault 1 = .ok (.iconst 0, 1) := by decide +kernel
theorem dX6_fault_2 : decode cX6_fault 2 = .ok (.putfield 88, 3) := by decide +kernel
theorem dX6_fault_5 : decode cX6_fault 5 = .ok (.aload_n 0, 1) := by decide +kernel
theorem dX6_fault_6 : decode cX6_fault 6 = .ok (.invokevirtual 126, 3) := by decide +kernel
theorem dX6_fault_9 : decode cX6_fault 9 = .ok (.ireturn, 1) := by decide +kernel
set_option maxRecDepth 20000 in
theorem ggX6_fault_X6_readCraft : GoodIn wsX6_fault wsX6_readCraft := goodIn_r _ [6, 7, 8, 9, 10, 11, 12, 13, 14, 5, 15, 16, 17, 18, 19, 20, 21, 22, 23, 24, 25, 26, 27, 28, 29, 30, 31, 32, 33, 34, 35, 36, 37, 38, 39, 40, 41, 42, 43, 44, 45, 46, 47, 48, 49, 50, 51, 52, 53, 54, 55, 56, 57, 58, 59, 60, 61, 62, 63, 64, 65, 66, 67, 68, 69, 70, 71] rfl (by decide +kernel)
set_option maxRecDepth 20000 in
theorem gX6_fault_X6_readCraft : GoodIn wsX6_fault (wsV RX6 126 RX6 yX6_readCraft wsX6_readCraft) := goodIn_app (goodIn_of _ (by decide +kernel)) ggX6_fault_X6_readCraft
theorem inX6_fault_X6 : ∀ w ∈ u_ws RX6 TX6 36, w ∈ wsX6_fault := fun w h => List.mem_cons_of_mem _ (List.mem_append_right _ h)
set_option maxRecDepth 100000 in
set_option maxHeartbeats 4000000 in
theorem m_X6_fault {l : Launch} {D : va_G} {E : Nat → ClassId} {T : Nat → Nat} (o : Nat) (tx : Nat) (len : Nat) (rp : Nat) (ra : Nat) (u0 : Value) (u3 : Value) (u4 : Value) (u5 : Value) (u6 : Value) (u7 : Value) (u8 : Value) (u11 : Value) (u12 : Value) (u13 : Value) (u14 : Value) (u15 : Value) (u16 : Value) (u17 : Value) (u18 : Value) (u19 : Value) (u20 : Value) (u21 : Value) (u22 : Value) (u23 : Value) (u24 : Value) (u25 : Value) (u26 : Value) (u27 : Value) (u28 : Value) (u29 : Value) (u30 : Value) (u31 : Value) (u32 : Value) (u33 : Value) (u34 : Value) (u35 : Value) (tt : Nat → Nat) (g : Nat → Int32) (gg9 : Nat → Int32) (hl9 : len ≤ 120) (ht9 : ∀ j, tt j < 256) : g_M l D E T yX6_fault wsX6_fault 4 93 [.ref o] [(o, .inr (6, [u0, .ref tx, .int (nI len), u3, u4, u5, u6, u7, u8, .ref ra, .ref rp, u11, u12, u13, u14, u15, u16, u17, u18, u19, u20, u21, u22, u23, u24, u25, u26, u27, u28, u29, u30, u31, u32, u33, u34, u35])), (tx, .inl (E 0, 120, .inl (txF tt))), (rp, .inl (E 0, 29, .inl g)), (ra, .inl (E 0, 18, .inl gg9))] [(o, .inr (6, [.int 0, .ref tx, .int (nI len), u3, u4, u5, u6, .int (nI (rcW tt (enN tt len))), .int (nI (rcF tt (enN tt len))), .ref ra, .ref rp, u11, u12, u13, u14, u15, u16, u17, u18, u19, u20, u21, u22, u23, u24, u25, u26, u27, u28, u29, u30, u31, u32, u33, u34, u35])), (tx, .inl (E 0, 120, .inl (txF tt))), (rp, .inl (E 0, 29, .inl (rcP tt (enN tt len)))), (ra, .inl (E 0, 18, .inl (rcG tt gg9 (enN tt len))))] (some (.int (ftF tt len))) := by
  refine g_M.of (cc := cX6_fault) (nL := 1) (ret := (some .int)) (own := RX6) (lv := [(0, .ref o)]) (by decide) rfl rfl (Nat.le_of_ble_eq_true rfl) rfl ?_
  intro p e R s m args below meth c A Q H locs ls hR hQ hc hr hw hl
  have hx := hc.1
  have hb := hc.2.1
  have hts := hc.2.2.2.1
  have hown := hc.2.2.2.2.1
  refine lv_aload_n hx hb dX6_fault_0 rfl (lv_at hl 0 rfl) ?_
  refine lv_iconst (v := 0) hx hb dX6_fault_1 (by decide) ?_
  refine g_put (TT := TX6) hc hw inX6_fault_X6 tyX6 tyX6_ok nmX6 0 0 1 rfl rfl (by decide) rfl rfl rfl rfl (Nat.le_of_ble_eq_true rfl) dX6_fault_2 (fun H locs hw => ?_)
  have hw : g_W D A s [(o, .inr (6, [.int 0, .ref tx, .int (nI len), u3, u4, u5, u6, u7, u8, .ref ra, .ref rp, u11, u12, u13, u14, u15, u16, u17, u18, u19, u20, u21, u22, u23, u24, u25, u26, u27, u28, u29, u30, u31, u32, u33, u34, u35])), (tx, .inl (E 0, 120, .inl (txF tt))), (rp, .inl (E 0, 29, .inl g)), (ra, .inl (E 0, 18, .inl gg9))] H locs := hw
  refine lv_aload_n hx hb dX6_fault_5 rfl (lv_at hl 0 rfl) ?_
  refine g_cV (As := []) (n := 0) (rest := []) (wc := [(o, .inr (6, [.int 0, .ref tx, .int (nI len), u3, u4, u5, u6, u7, u8, .ref ra, .ref rp, u11, u12, u13, u14, u15, u16, u17, u18, u19, u20, u21, u22, u23, u24, u25, u26, u27, u28, u29, u30, u31, u32, u33, u34, u35])), (tx, .inl (E 0, 120, .inl (txF tt))), (rp, .inl (E 0, 29, .inl g)), (ra, .inl (E 0, 18, .inl gg9))]) (w1 := [(o, .inr (6, [.int 0, .ref tx, .int (nI len), u3, u4, u5, u6, .int (nI (rcW tt (enN tt len))), .int (nI (rcF tt (enN tt len))), .ref ra, .ref rp, u11, u12, u13, u14, u15, u16, u17, u18, u19, u20, u21, u22, u23, u24, u25, u26, u27, u28, u29, u30, u31, u32, u33, u34, u35])), (tx, .inl (E 0, 120, .inl (txF tt))), (rp, .inl (E 0, 29, .inl (rcP tt (enN tt len)))), (ra, .inl (E 0, 18, .inl (rcG tt gg9 (enN tt len))))]) (bytes := cX6_readCraft) (maxL := 5) (ret := (some .int)) hc hw hl.1 (m_X6_readCraft (l := l) (D := D) (E := E) (T := T) o tx len rp ra (.int 0) u3 u4 u5 u6 u11 u12 u13 u14 u15 u16 u17 u18 u19 u20 u21 u22 u23 u24 u25 u26 u27 u28 u29 u30 u31 u32 u33 u34 u35 u7 u8 tt g gg9 (by first | assumption | omega | decide) (by first | assumption | omega | decide)) gX6_fault_X6_readCraft rfl (by decide +kernel) (by rw [hR]; exact ⟨Nat.le_of_ble_eq_true rfl, Nat.le_of_ble_eq_true rfl⟩) [0, 1, 2, 3] 0 6 rfl rfl (by decide) rfl [o, tx, rp, ra] rfl rfl rfl rfl (Nat.le_of_ble_eq_true rfl) dX6_fault_6 ⟨Nat.zero_le _, Nat.zero_le _⟩ (fun H locs hw => ?_)
  have hw : g_W D A s [(o, .inr (6, [.int 0, .ref tx, .int (nI len), u3, u4, u5, u6, .int (nI (rcW tt (enN tt len))), .int (nI (rcF tt (enN tt len))), .ref ra, .ref rp, u11, u12, u13, u14, u15, u16, u17, u18, u19, u20, u21, u22, u23, u24, u25, u26, u27, u28, u29, u30, u31, u32, u33, u34, u35])), (tx, .inl (E 0, 120, .inl (txF tt))), (rp, .inl (E 0, 29, .inl (rcP tt (enN tt len)))), (ra, .inl (E 0, 18, .inl (rcG tt gg9 (enN tt len))))] H locs := hw
  exact g_iret hQ hc hw hr rfl rfl dX6_fault_9

theorem dX6_craft_0 : decode cX6_craft 0 = .ok (.aload_n 0, 1) := by decide +kernel
theorem dX6_craft_1 : decode cX6_craft 1 = .ok (.iconst 0, 1) := by decide +kernel
theorem dX6_craft_2 : decode cX6_craft 2 = .ok (.putfield 88, 3) := by decide +kernel
theorem dX6_craft_5 : decode cX6_craft 5 = .ok (.aload_n 0, 1) := by decide +kernel
theorem dX6_craft_6 : decode cX6_craft 6 = .ok (.invokevirtual 126, 3) := by decide +kernel
theorem dX6_craft_9 : decode cX6_craft 9 = .ok (.bipush (-9), 2) := by decide +kernel
theorem dX6_craft_11 : decode cX6_craft 11 = .ok (.if_icmp .eq 6, 3) := by decide +kernel
theorem dX6_craft_14 : decode cX6_craft 14 = .ok (.bipush (-3), 2) := by decide +kernel
theorem dX6_craft_16 : decode cX6_craft 16 = .ok (.ireturn, 1) := by decide +kernel
set_option maxRecDepth 20000 in
theorem ggX6_craft_X6_readCraft : GoodIn wsX6_craft wsX6_readCraft := goodIn_r _ [17, 3, 7, 9, 18, 19, 6, 20, 21, 16, 22, 23, 24, 25, 26, 27, 28, 29, 30, 31, 32, 33, 34, 35, 36, 37, 38, 39, 40, 41, 42, 43, 44, 45, 46, 47, 48, 49, 50, 51, 52, 53, 54, 55, 56, 57, 58, 59, 60, 61, 62, 63, 64, 65, 66, 67, 68, 69, 70, 71, 72, 73, 74, 75, 76, 77, 78] rfl (by decide +kernel)
set_option maxRecDepth 20000 in
theorem gX6_craft_X6_readCraft : GoodIn wsX6_craft (wsV RX6 126 RX6 yX6_readCraft wsX6_readCraft) := goodIn_app (goodIn_of _ (by decide +kernel)) ggX6_craft_X6_readCraft
theorem inX6_craft_X6 : ∀ w ∈ u_ws RX6 TX6 36, w ∈ wsX6_craft := fun w h => List.mem_cons_of_mem _ (List.mem_append_right _ h)
set_option maxRecDepth 100000 in
set_option maxHeartbeats 4000000 in
theorem m_X6_craft_no {l : Launch} {D : va_G} {E : Nat → ClassId} {T : Nat → Nat} (o : Nat) (tx : Nat) (len : Nat) (rp : Nat) (ra : Nat) (u0 : Value) (u3 : Value) (u4 : Value) (u5 : Value) (u6 : Value) (u7 : Value) (u8 : Value) (u11 : Value) (u12 : Value) (u13 : Value) (u14 : Value) (u15 : Value) (u16 : Value) (u17 : Value) (u18 : Value) (u19 : Value) (u20 : Value) (u21 : Value) (u22 : Value) (u23 : Value) (u24 : Value) (u25 : Value) (u26 : Value) (u27 : Value) (u28 : Value) (u29 : Value) (u30 : Value) (u31 : Value) (u32 : Value) (u33 : Value) (u34 : Value) (u35 : Value) (tt : Nat → Nat) (g : Nat → Int32) (gg9 : Nat → Int32) (hl9 : len ≤ 120) (ht9 : ∀ j, tt j < 256) (hne : ¬ ftF tt len = -9) : g_M l D E T yX6_craft wsX6_craft 4 93 [.ref o] [(o, .inr (6, [u0, .ref tx, .int (nI len), u3, u4, u5, u6, u7, u8, .ref ra, .ref rp, u11, u12, u13, u14, u15, u16, u17, u18, u19, u20, u21, u22, u23, u24, u25, u26, u27, u28, u29, u30, u31, u32, u33, u34, u35])), (tx, .inl (E 0, 120, .inl (txF tt))), (rp, .inl (E 0, 29, .inl g)), (ra, .inl (E 0, 18, .inl gg9))] [(o, .inr (6, [.int 0, .ref tx, .int (nI len), u3, u4, u5, u6, .int (nI (rcW tt (enN tt len))), .int (nI (rcF tt (enN tt len))), .ref ra, .ref rp, u11, u12, u13, u14, u15, u16, u17, u18, u19, u20, u21, u22, u23, u24, u25, u26, u27, u28, u29, u30, u31, u32, u33, u34, u35])), (tx, .inl (E 0, 120, .inl (txF tt))), (rp, .inl (E 0, 29, .inl (rcP tt (enN tt len)))), (ra, .inl (E 0, 18, .inl (rcG tt gg9 (enN tt len))))] (some (.int (-3))) := by
  refine g_M.of (cc := cX6_craft) (nL := 2) (ret := (some .int)) (own := RX6) (lv := [(0, .ref o)]) (by decide) rfl rfl (Nat.le_of_ble_eq_true rfl) rfl ?_
  intro p e R s m args below meth c A Q H locs ls hR hQ hc hr hw hl
  have hx := hc.1
  have hb := hc.2.1
  have hts := hc.2.2.2.1
  have hown := hc.2.2.2.2.1
  refine lv_aload_n hx hb dX6_craft_0 rfl (lv_at hl 0 rfl) ?_
  refine lv_iconst (v := 0) hx hb dX6_craft_1 (by decide) ?_
  refine g_put (TT := TX6) hc hw inX6_craft_X6 tyX6 tyX6_ok nmX6 0 0 1 rfl rfl (by decide) rfl rfl rfl rfl (Nat.le_of_ble_eq_true rfl) dX6_craft_2 (fun H locs hw => ?_)
  have hw : g_W D A s [(o, .inr (6, [.int 0, .ref tx, .int (nI len), u3, u4, u5, u6, u7, u8, .ref ra, .ref rp, u11, u12, u13, u14, u15, u16, u17, u18, u19, u20, u21, u22, u23, u24, u25, u26, u27, u28, u29, u30, u31, u32, u33, u34, u35])), (tx, .inl (E 0, 120, .inl (txF tt))), (rp, .inl (E 0, 29, .inl g)), (ra, .inl (E 0, 18, .inl gg9))] H locs := hw
  refine lv_aload_n hx hb dX6_craft_5 rfl (lv_at hl 0 rfl) ?_
  refine g_cV (As := []) (n := 0) (rest := []) (wc := [(o, .inr (6, [.int 0, .ref tx, .int (nI len), u3, u4, u5, u6, u7, u8, .ref ra, .ref rp, u11, u12, u13, u14, u15, u16, u17, u18, u19, u20, u21, u22, u23, u24, u25, u26, u27, u28, u29, u30, u31, u32, u33, u34, u35])), (tx, .inl (E 0, 120, .inl (txF tt))), (rp, .inl (E 0, 29, .inl g)), (ra, .inl (E 0, 18, .inl gg9))]) (w1 := [(o, .inr (6, [.int 0, .ref tx, .int (nI len), u3, u4, u5, u6, .int (nI (rcW tt (enN tt len))), .int (nI (rcF tt (enN tt len))), .ref ra, .ref rp, u11, u12, u13, u14, u15, u16, u17, u18, u19, u20, u21, u22, u23, u24, u25, u26, u27, u28, u29, u30, u31, u32, u33, u34, u35])), (tx, .inl (E 0, 120, .inl (txF tt))), (rp, .inl (E 0, 29, .inl (rcP tt (enN tt len)))), (ra, .inl (E 0, 18, .inl (rcG tt gg9 (enN tt len))))]) (bytes := cX6_readCraft) (maxL := 5) (ret := (some .int)) hc hw hl.1 (m_X6_readCraft (l := l) (D := D) (E := E) (T := T) o tx len rp ra (.int 0) u3 u4 u5 u6 u11 u12 u13 u14 u15 u16 u17 u18 u19 u20 u21 u22 u23 u24 u25 u26 u27 u28 u29 u30 u31 u32 u33 u34 u35 u7 u8 tt g gg9 (by first | assumption | omega | decide) (by first | assumption | omega | decide)) gX6_craft_X6_readCraft rfl (by decide +kernel) (by rw [hR]; exact ⟨Nat.le_of_ble_eq_true rfl, Nat.le_of_ble_eq_true rfl⟩) [0, 1, 2, 3] 0 6 rfl rfl (by decide) rfl [o, tx, rp, ra] rfl rfl rfl rfl (Nat.le_of_ble_eq_true rfl) dX6_craft_6 ⟨Nat.zero_le _, Nat.zero_le _⟩ (fun H locs hw => ?_)
  have hw : g_W D A s [(o, .inr (6, [.int 0, .ref tx, .int (nI len), u3, u4, u5, u6, .int (nI (rcW tt (enN tt len))), .int (nI (rcF tt (enN tt len))), .ref ra, .ref rp, u11, u12, u13, u14, u15, u16, u17, u18, u19, u20, u21, u22, u23, u24, u25, u26, u27, u28, u29, u30, u31, u32, u33, u34, u35])), (tx, .inl (E 0, 120, .inl (txF tt))), (rp, .inl (E 0, 29, .inl (rcP tt (enN tt len)))), (ra, .inl (E 0, 18, .inl (rcG tt gg9 (enN tt len))))] H locs := hw
  refine lv_bipush (v := (-9)) hx hb dX6_craft_9 (by decide) ?_
  refine lv_icmp_eq (tgt := 17) hx hb dX6_craft_11 (by decide) (fun c_11 => absurd c_11 hne) (fun c_11 => ?_)
  refine lv_bipush (v := (-3)) hx hb dX6_craft_14 (by decide) ?_
  exact g_iret hQ hc hw hr rfl rfl dX6_craft_16

theorem dX6_craft_17 : decode cX6_craft 17 = .ok (.iconst 0, 1) := by decide +kernel
theorem dX6_craft_18 : decode cX6_craft 18 = .ok (.istore_n 1, 1) := by decide +kernel
theorem dX6_craft_19 : decode cX6_craft 19 = .ok (.iload_n 1, 1) := by decide +kernel
theorem dX6_craft_20 : decode cX6_craft 20 = .ok (.bipush 29, 2) := by decide +kernel
theorem dX6_craft_22 : decode cX6_craft 22 = .ok (.if_icmp .ge 21, 3) := by decide +kernel
theorem dX6_craft_25 : decode cX6_craft 25 = .ok (.aload_n 0, 1) := by decide +kernel
theorem dX6_craft_26 : decode cX6_craft 26 = .ok (.getfield 25, 3) := by decide +kernel
theorem dX6_craft_29 : decode cX6_craft 29 = .ok (.iload_n 1, 1) := by decide +kernel
theorem dX6_craft_30 : decode cX6_craft 30 = .ok (.aload_n 0, 1) := by decide +kernel
theorem dX6_craft_31 : decode cX6_craft 31 = .ok (.getfield 22, 3) := by decide +kernel
theorem dX6_craft_34 : decode cX6_craft 34 = .ok (.iload_n 1, 1) := by decide +kernel
theorem dX6_craft_35 : decode cX6_craft 35 = .ok (.iaload, 1) := by decide +kernel
theorem dX6_craft_36 : decode cX6_craft 36 = .ok (.iastore, 1) := by decide +kernel
theorem dX6_craft_37 : decode cX6_craft 37 = .ok (.iinc 1 1, 3) := by decide +kernel
theorem dX6_craft_40 : decode cX6_craft 40 = .ok (.goto (-21), 3) := by decide +kernel
theorem dX6_craft_43 : decode cX6_craft 43 = .ok (.iconst 0, 1) := by decide +kernel
theorem dX6_craft_44 : decode cX6_craft 44 = .ok (.istore_n 1, 1) := by decide +kernel
theorem dX6_craft_45 : decode cX6_craft 45 = .ok (.iload_n 1, 1) := by decide +kernel
theorem dX6_craft_46 : decode cX6_craft 46 = .ok (.iconst 5, 1) := by decide +kernel
theorem dX6_craft_47 : decode cX6_craft 47 = .ok (.if_icmp .ge 16, 3) := by decide +kernel
theorem dX6_craft_50 : decode cX6_craft 50 = .ok (.aload_n 0, 1) := by decide +kernel
theorem dX6_craft_51 : decode cX6_craft 51 = .ok (.getfield 28, 3) := by decide +kernel
theorem dX6_craft_54 : decode cX6_craft 54 = .ok (.iload_n 1, 1) := by decide +kernel
theorem dX6_craft_55 : decode cX6_craft 55 = .ok (.fconst 0, 1) := by decide +kernel
theorem dX6_craft_56 : decode cX6_craft 56 = .ok (.fastore, 1) := by decide +kernel
theorem dX6_craft_57 : decode cX6_craft 57 = .ok (.iinc 1 1, 3) := by decide +kernel
theorem dX6_craft_60 : decode cX6_craft 60 = .ok (.goto (-15), 3) := by decide +kernel
theorem dX6_craft_63 : decode cX6_craft 63 = .ok (.iconst 0, 1) := by decide +kernel
theorem dX6_craft_64 : decode cX6_craft 64 = .ok (.istore_n 1, 1) := by decide +kernel
theorem dX6_craft_65 : decode cX6_craft 65 = .ok (.iload_n 1, 1) := by decide +kernel
theorem dX6_craft_66 : decode cX6_craft 66 = .ok (.bipush 18, 2) := by decide +kernel
theorem dX6_craft_68 : decode cX6_craft 68 = .ok (.if_icmp .ge 21, 3) := by decide +kernel
theorem dX6_craft_71 : decode cX6_craft 71 = .ok (.aload_n 0, 1) := by decide +kernel
theorem dX6_craft_72 : decode cX6_craft 72 = .ok (.getfield 16, 3) := by decide +kernel
theorem dX6_craft_75 : decode cX6_craft 75 = .ok (.iload_n 1, 1) := by decide +kernel
theorem dX6_craft_76 : decode cX6_craft 76 = .ok (.aload_n 0, 1) := by decide +kernel
theorem dX6_craft_77 : decode cX6_craft 77 = .ok (.getfield 19, 3) := by decide +kernel
theorem dX6_craft_80 : decode cX6_craft 80 = .ok (.iload_n 1, 1) := by decide +kernel
theorem dX6_craft_81 : decode cX6_craft 81 = .ok (.iaload, 1) := by decide +kernel
theorem dX6_craft_82 : decode cX6_craft 82 = .ok (.iastore, 1) := by decide +kernel
theorem dX6_craft_83 : decode cX6_craft 83 = .ok (.iinc 1 1, 3) := by decide +kernel
theorem dX6_craft_86 : decode cX6_craft 86 = .ok (.goto (-21), 3) := by decide +kernel
theorem dX6_craft_89 : decode cX6_craft 89 = .ok (.aload_n 0, 1) := by decide +kernel
theorem dX6_craft_90 : decode cX6_craft 90 = .ok (.aload_n 0, 1) := by decide +kernel
theorem dX6_craft_91 : decode cX6_craft 91 = .ok (.getfield 109, 3) := by decide +kernel
theorem dX6_craft_94 : decode cX6_craft 94 = .ok (.putfield 130, 3) := by decide +kernel
theorem dX6_craft_97 : decode cX6_craft 97 = .ok (.aload_n 0, 1) := by decide +kernel
theorem dX6_craft_98 : decode cX6_craft 98 = .ok (.aload_n 0, 1) := by decide +kernel
theorem dX6_craft_99 : decode cX6_craft 99 = .ok (.getfield 112, 3) := by decide +kernel
theorem dX6_craft_102 : decode cX6_craft 102 = .ok (.putfield 133, 3) := by decide +kernel
theorem dX6_craft_105 : decode cX6_craft 105 = .ok (.aload_n 0, 1) := by decide +kernel
theorem dX6_craft_106 : decode cX6_craft 106 = .ok (.iconst 0, 1) := by decide +kernel
theorem dX6_craft_107 : decode cX6_craft 107 = .ok (.putfield 136, 3) := by decide +kernel
theorem dX6_craft_110 : decode cX6_craft 110 = .ok (.aload_n 0, 1) := by decide +kernel
theorem dX6_craft_111 : decode cX6_craft 111 = .ok (.getfield 50, 3) := by decide +kernel
theorem dX6_craft_114 : decode cX6_craft 114 = .ok (.iconst 0, 1) := by decide +kernel
theorem dX6_craft_115 : decode cX6_craft 115 = .ok (.iconst 0, 1) := by decide +kernel
theorem dX6_craft_116 : decode cX6_craft 116 = .ok (.bastore, 1) := by decide +kernel
theorem dX6_craft_117 : decode cX6_craft 117 = .ok (.aload_n 0, 1) := by decide +kernel
theorem dX6_craft_118 : decode cX6_craft 118 = .ok (.getfield 50, 3) := by decide +kernel
theorem dX6_craft_121 : decode cX6_craft 121 = .ok (.iconst 1, 1) := by decide +kernel
theorem dX6_craft_122 : decode cX6_craft 122 = .ok (.iconst 0, 1) := by decide +kernel
theorem dX6_craft_123 : decode cX6_craft 123 = .ok (.bastore, 1) := by decide +kernel
theorem dX6_craft_124 : decode cX6_craft 124 = .ok (.aload_n 0, 1) := by decide +kernel
theorem dX6_craft_125 : decode cX6_craft 125 = .ok (.getfield 130, 3) := by decide +kernel
theorem dX6_craft_128 : decode cX6_craft 128 = .ok (.ireturn, 1) := by decide +kernel
set_option maxRecDepth 100000 in
set_option maxHeartbeats 4000000 in
theorem m_X6_craft {l : Launch} {D : va_G} {E : Nat → ClassId} {T : Nat → Nat} (o : Nat) (tx : Nat) (len : Nat) (rp : Nat) (ra : Nat) (fa : Nat) (pa : Nat) (va : Nat) (ik : Nat) (u0 : Value) (u3 : Value) (u4 : Value) (u5 : Value) (u7 : Value) (u8 : Value) (u13 : Value) (u14 : Value) (u15 : Value) (u16 : Value) (u17 : Value) (u18 : Value) (u19 : Value) (u21 : Value) (u22 : Value) (u23 : Value) (u24 : Value) (u25 : Value) (u26 : Value) (u27 : Value) (u28 : Value) (u29 : Value) (u30 : Value) (u31 : Value) (u32 : Value) (u33 : Value) (u34 : Value) (u35 : Value) (tt : Nat → Nat) (g : Nat → Int32) (gg9 : Nat → Int32) (fl : Nat → Int32) (pg : Nat → Int32) (fs : Nat → UInt32) (kb : Nat → Int32) (n : Nat) (hl9 : len ≤ 120) (ht9 : ∀ j, tt j < 256) (hl6 : len = 6 + 7 * n) (h99 : ftF tt len = -9) : g_M l D E T yX6_craft wsX6_craft 4 93 [.ref o] [(o, .inr (6, [u0, .ref tx, .int (nI len), u3, u4, u5, .ref fa, u7, u8, .ref ra, .ref rp, .ref pa, .ref va, u13, u14, u15, u16, u17, u18, u19, .ref ik, u21, u22, u23, u24, u25, u26, u27, u28, u29, u30, u31, u32, u33, u34, u35])), (tx, .inl (E 0, 120, .inl (txF tt))), (rp, .inl (E 0, 29, .inl g)), (ra, .inl (E 0, 18, .inl gg9)), (fa, .inl (E 0, 18, .inl fl)), (pa, .inl (E 0, 29, .inl pg)), (va, .inl (E 1, 5, .inr (.inr (.inl fs)))), (ik, .inl (E 3, 2, .inl kb))] [(o, .inr (6, [.int 0, .ref tx, .int (nI len), u3, .int (nI (cwN tt (6 + 7 * n))), .int (nI (cfN tt (6 + 7 * n))), .ref fa, .int (nI (cwN tt (6 + 7 * n))), .int (nI (cfN tt (6 + 7 * n))), .ref ra, .ref rp, .ref pa, .ref va, u13, u14, u15, u16, .int 0, u18, u19, .ref ik, u21, u22, u23, u24, u25, u26, u27, u28, u29, u30, u31, u32, u33, u34, u35])), (tx, .inl (E 0, 120, .inl (txF tt))), (rp, .inl (E 0, 29, .inl (pgF (rcS tt n)))), (ra, .inl (E 0, 18, .inl (flN tt gg9 n))), (fa, .inl (E 0, 18, .inl (flN tt gg9 n))), (pa, .inl (E 0, 29, .inl (pgF (rcS tt n)))), (va, .inl (E 1, 5, .inr (.inr (.inl (fl5 (rcS tt n)))))), (ik, .inl (E 3, 2, .inl (cpI (fun _ => 0) kb 2)))] (some (.int (nI (cwN tt (6 + 7 * n))))) := by
  refine g_M.of (cc := cX6_craft) (nL := 2) (ret := (some .int)) (own := RX6) (lv := [(0, .ref o)]) (by decide) rfl rfl (Nat.le_of_ble_eq_true rfl) rfl ?_
  intro p e R s m args below meth c A Q H locs ls hR hQ hc hr hw hl
  have hx := hc.1
  have hb := hc.2.1
  have hts := hc.2.2.2.1
  have hown := hc.2.2.2.2.1
  refine lv_aload_n hx hb dX6_craft_0 rfl (lv_at hl 0 rfl) ?_
  refine lv_iconst (v := 0) hx hb dX6_craft_1 (by decide) ?_
  refine g_put (TT := TX6) hc hw inX6_craft_X6 tyX6 tyX6_ok nmX6 0 0 1 rfl rfl (by decide) rfl rfl rfl rfl (Nat.le_of_ble_eq_true rfl) dX6_craft_2 (fun H locs hw => ?_)
  have hw : g_W D A s [(o, .inr (6, [.int 0, .ref tx, .int (nI len), u3, u4, u5, .ref fa, u7, u8, .ref ra, .ref rp, .ref pa, .ref va, u13, u14, u15, u16, u17, u18, u19, .ref ik, u21, u22, u23, u24, u25, u26, u27, u28, u29, u30, u31, u32, u33, u34, u35])), (tx, .inl (E 0, 120, .inl (txF tt))), (rp, .inl (E 0, 29, .inl g)), (ra, .inl (E 0, 18, .inl gg9)), (fa, .inl (E 0, 18, .inl fl)), (pa, .inl (E 0, 29, .inl pg)), (va, .inl (E 1, 5, .inr (.inr (.inl fs)))), (ik, .inl (E 3, 2, .inl kb))] H locs := hw
  refine lv_aload_n hx hb dX6_craft_5 rfl (lv_at hl 0 rfl) ?_
  refine g_cV (As := []) (n := 0) (rest := []) (wc := [(o, .inr (6, [.int 0, .ref tx, .int (nI len), u3, u4, u5, .ref fa, u7, u8, .ref ra, .ref rp, .ref pa, .ref va, u13, u14, u15, u16, u17, u18, u19, .ref ik, u21, u22, u23, u24, u25, u26, u27, u28, u29, u30, u31, u32, u33, u34, u35])), (tx, .inl (E 0, 120, .inl (txF tt))), (rp, .inl (E 0, 29, .inl g)), (ra, .inl (E 0, 18, .inl gg9))]) (w1 := [(o, .inr (6, [.int 0, .ref tx, .int (nI len), u3, u4, u5, .ref fa, .int (nI (rcW tt (enN tt len))), .int (nI (rcF tt (enN tt len))), .ref ra, .ref rp, .ref pa, .ref va, u13, u14, u15, u16, u17, u18, u19, .ref ik, u21, u22, u23, u24, u25, u26, u27, u28, u29, u30, u31, u32, u33, u34, u35])), (tx, .inl (E 0, 120, .inl (txF tt))), (rp, .inl (E 0, 29, .inl (rcP tt (enN tt len)))), (ra, .inl (E 0, 18, .inl (rcG tt gg9 (enN tt len))))]) (bytes := cX6_readCraft) (maxL := 5) (ret := (some .int)) hc hw hl.1 (m_X6_readCraft (l := l) (D := D) (E := E) (T := T) o tx len rp ra (.int 0) u3 u4 u5 (.ref fa) (.ref pa) (.ref va) u13 u14 u15 u16 u17 u18 u19 (.ref ik) u21 u22 u23 u24 u25 u26 u27 u28 u29 u30 u31 u32 u33 u34 u35 u7 u8 tt g gg9 (by first | assumption | omega | decide) (by first | assumption | omega | decide)) gX6_craft_X6_readCraft rfl (by decide +kernel) (by rw [hR]; exact ⟨Nat.le_of_ble_eq_true rfl, Nat.le_of_ble_eq_true rfl⟩) [0, 1, 2, 3] 0 6 rfl rfl (by decide) rfl [o, tx, rp, ra] rfl rfl rfl rfl (Nat.le_of_ble_eq_true rfl) dX6_craft_6 ⟨Nat.zero_le _, Nat.zero_le _⟩ (fun H locs hw => ?_)
  have hw : g_W D A s [(o, .inr (6, [.int 0, .ref tx, .int (nI len), u3, u4, u5, .ref fa, .int (nI (rcW tt (enN tt len))), .int (nI (rcF tt (enN tt len))), .ref ra, .ref rp, .ref pa, .ref va, u13, u14, u15, u16, u17, u18, u19, .ref ik, u21, u22, u23, u24, u25, u26, u27, u28, u29, u30, u31, u32, u33, u34, u35])), (tx, .inl (E 0, 120, .inl (txF tt))), (rp, .inl (E 0, 29, .inl (rcP tt (enN tt len)))), (ra, .inl (E 0, 18, .inl (rcG tt gg9 (enN tt len)))), (fa, .inl (E 0, 18, .inl fl)), (pa, .inl (E 0, 29, .inl pg)), (va, .inl (E 1, 5, .inr (.inr (.inl fs)))), (ik, .inl (E 3, 2, .inl kb))] H locs := hw
  have he9 : enN tt len = 6 + 7 * n + 0 := (en_9 hl9 h99).trans hl6
  rw [he9, rcW_1 _ _ (by omega), rcF_1 _ _ (by omega), rcP_1 _ _ (by omega), rcG_1 _ _ _ (by omega)] at hw
  have hw : g_W D A s [(o, .inr (6, [.int 0, .ref tx, .int (nI len), u3, u4, u5, .ref fa, .int (nI (cwN tt (6 + 7 * n))), .int (nI (cfN tt (6 + 7 * n))), .ref ra, .ref rp, .ref pa, .ref va, u13, u14, u15, u16, u17, u18, u19, .ref ik, u21, u22, u23, u24, u25, u26, u27, u28, u29, u30, u31, u32, u33, u34, u35])), (tx, .inl (E 0, 120, .inl (txF tt))), (rp, .inl (E 0, 29, .inl (pgF (rcS tt n)))), (ra, .inl (E 0, 18, .inl (flN tt gg9 n))), (fa, .inl (E 0, 18, .inl fl)), (pa, .inl (E 0, 29, .inl pg)), (va, .inl (E 1, 5, .inr (.inr (.inl fs)))), (ik, .inl (E 3, 2, .inl kb))] H locs := hw
  refine lv_bipush (v := (-9)) hx hb dX6_craft_9 (by decide) ?_
  refine lv_icmp_eq (tgt := 17) hx hb dX6_craft_11 (by decide) (fun c_11 => ?_) (fun c_11 => absurd h99 c_11)
  refine lv_iconst (v := 0) hx hb dX6_craft_17 (by decide) ?_
  refine lv_istore_n (lv' := [(1, .int 0), (0, .ref o)]) hx hb dX6_craft_18 rfl hl (by decide) rfl (fun ls hl => ?_)
  have J19 : ∀ (k9 : Nat) (i : Nat), i + k9 = 29 → ∀ (H : Heap) (locs : List Loc) (ls : Array Slot), g_W D A s [(o, .inr (6, [.int 0, .ref tx, .int (nI len), u3, u4, u5, .ref fa, .int (nI (cwN tt (6 + 7 * n))), .int (nI (cfN tt (6 + 7 * n))), .ref ra, .ref rp, .ref pa, .ref va, u13, u14, u15, u16, u17, u18, u19, .ref ik, u21, u22, u23, u24, u25, u26, u27, u28, u29, u30, u31, u32, u33, u34, u35])), (tx, .inl (E 0, 120, .inl (txF tt))), (rp, .inl (E 0, 29, .inl (pgF (rcS tt n)))), (ra, .inl (E 0, 18, .inl (flN tt gg9 n))), (fa, .inl (E 0, 18, .inl fl)), (pa, .inl (E 0, 29, .inl (cpI (pgF (rcS tt n)) pg i))), (va, .inl (E 1, 5, .inr (.inr (.inl fs)))), (ik, .inl (E 3, 2, .inl kb))] H locs → lv_has ls 2 [(0, .ref o), (1, .int (nI i))] → W p l e R s m args below meth c H locs 0 0 Q (F0 m 19 ls []) := by
    intro k9
    induction k9 with
    | zero =>
      intro i h9   H locs ls hw hl
      have h9 : i = 29 := h9
      subst h9
      refine lv_iload_n hx hb dX6_craft_19 rfl (lv_at hl 1 rfl) ?_
      refine lv_bipush (v := 29) hx hb dX6_craft_20 (by decide) ?_
      refine lv_icmp_ge (tgt := 43) hx hb dX6_craft_22 (by decide) (fun c_22 => ?_) (fun c_22 => absurd (by first | exact Int32.le_refl _ | decide) c_22)
      have hw := g_reI (q0 := 5) (g := pgF (rcS tt n)) hw rfl (cpI_n _ pg 29)
      have hw : g_W D A s [(o, .inr (6, [.int 0, .ref tx, .int (nI len), u3, u4, u5, .ref fa, .int (nI (cwN tt (6 + 7 * n))), .int (nI (cfN tt (6 + 7 * n))), .ref ra, .ref rp, .ref pa, .ref va, u13, u14, u15, u16, u17, u18, u19, .ref ik, u21, u22, u23, u24, u25, u26, u27, u28, u29, u30, u31, u32, u33, u34, u35])), (tx, .inl (E 0, 120, .inl (txF tt))), (rp, .inl (E 0, 29, .inl (pgF (rcS tt n)))), (ra, .inl (E 0, 18, .inl (flN tt gg9 n))), (fa, .inl (E 0, 18, .inl fl)), (pa, .inl (E 0, 29, .inl (pgF (rcS tt n)))), (va, .inl (E 1, 5, .inr (.inr (.inl fs)))), (ik, .inl (E 3, 2, .inl kb))] H locs := hw
      refine lv_iconst (v := 0) hx hb dX6_craft_43 (by decide) ?_
      refine lv_istore_n (lv' := [(1, .int 0), (0, .ref o)]) hx hb dX6_craft_44 rfl hl (by decide) rfl (fun ls hl => ?_)
      have J45 : ∀ (k9 : Nat) (i : Nat), i + k9 = 5 → ∀ (H : Heap) (locs : List Loc) (ls : Array Slot), g_W D A s [(o, .inr (6, [.int 0, .ref tx, .int (nI len), u3, u4, u5, .ref fa, .int (nI (cwN tt (6 + 7 * n))), .int (nI (cfN tt (6 + 7 * n))), .ref ra, .ref rp, .ref pa, .ref va, u13, u14, u15, u16, u17, u18, u19, .ref ik, u21, u22, u23, u24, u25, u26, u27, u28, u29, u30, u31, u32, u33, u34, u35])), (tx, .inl (E 0, 120, .inl (txF tt))), (rp, .inl (E 0, 29, .inl (pgF (rcS tt n)))), (ra, .inl (E 0, 18, .inl (flN tt gg9 n))), (fa, .inl (E 0, 18, .inl fl)), (pa, .inl (E 0, 29, .inl (pgF (rcS tt n)))), (va, .inl (E 1, 5, .inr (.inr (.inl (cpF (fl5 (rcS tt n)) fs i))))), (ik, .inl (E 3, 2, .inl kb))] H locs → lv_has ls 2 [(0, .ref o), (1, .int (nI i))] → W p l e R s m args below meth c H locs 0 0 Q (F0 m 45 ls []) := by
        intro k9
        induction k9 with
        | zero =>
          intro i h9   H locs ls hw hl
          have h9 : i = 5 := h9
          subst h9
          refine lv_iload_n hx hb dX6_craft_45 rfl (lv_at hl 1 rfl) ?_
          refine lv_iconst (v := 5) hx hb dX6_craft_46 (by decide) ?_
          refine lv_icmp_ge (tgt := 63) hx hb dX6_craft_47 (by decide) (fun c_47 => ?_) (fun c_47 => absurd (by first | exact Int32.le_refl _ | decide) c_47)
          have hw := g_reF (q0 := 6) (g := fl5 (rcS tt n)) hw rfl (cpF_n _ fs 5)
          have hw : g_W D A s [(o, .inr (6, [.int 0, .ref tx, .int (nI len), u3, u4, u5, .ref fa, .int (nI (cwN tt (6 + 7 * n))), .int (nI (cfN tt (6 + 7 * n))), .ref ra, .ref rp, .ref pa, .ref va, u13, u14, u15, u16, u17, u18, u19, .ref ik, u21, u22, u23, u24, u25, u26, u27, u28, u29, u30, u31, u32, u33, u34, u35])), (tx, .inl (E 0, 120, .inl (txF tt))), (rp, .inl (E 0, 29, .inl (pgF (rcS tt n)))), (ra, .inl (E 0, 18, .inl (flN tt gg9 n))), (fa, .inl (E 0, 18, .inl fl)), (pa, .inl (E 0, 29, .inl (pgF (rcS tt n)))), (va, .inl (E 1, 5, .inr (.inr (.inl (fl5 (rcS tt n)))))), (ik, .inl (E 3, 2, .inl kb))] H locs := hw
          refine lv_iconst (v := 0) hx hb dX6_craft_63 (by decide) ?_
          refine lv_istore_n (lv' := [(1, .int 0), (0, .ref o)]) hx hb dX6_craft_64 rfl hl (by decide) rfl (fun ls hl => ?_)
          have J65 : ∀ (k9 : Nat) (i : Nat), i + k9 = 18 → ∀ (H : Heap) (locs : List Loc) (ls : Array Slot), g_W D A s [(o, .inr (6, [.int 0, .ref tx, .int (nI len), u3, u4, u5, .ref fa, .int (nI (cwN tt (6 + 7 * n))), .int (nI (cfN tt (6 + 7 * n))), .ref ra, .ref rp, .ref pa, .ref va, u13, u14, u15, u16, u17, u18, u19, .ref ik, u21, u22, u23, u24, u25, u26, u27, u28, u29, u30, u31, u32, u33, u34, u35])), (tx, .inl (E 0, 120, .inl (txF tt))), (rp, .inl (E 0, 29, .inl (pgF (rcS tt n)))), (ra, .inl (E 0, 18, .inl (flN tt gg9 n))), (fa, .inl (E 0, 18, .inl (cpI (flN tt gg9 n) fl i))), (pa, .inl (E 0, 29, .inl (pgF (rcS tt n)))), (va, .inl (E 1, 5, .inr (.inr (.inl (fl5 (rcS tt n)))))), (ik, .inl (E 3, 2, .inl kb))] H locs → lv_has ls 2 [(0, .ref o), (1, .int (nI i))] → W p l e R s m args below meth c H locs 0 0 Q (F0 m 65 ls []) := by
            intro k9
            induction k9 with
            | zero =>
              intro i h9   H locs ls hw hl
              have h9 : i = 18 := h9
              subst h9
              refine lv_iload_n hx hb dX6_craft_65 rfl (lv_at hl 1 rfl) ?_
              refine lv_bipush (v := 18) hx hb dX6_craft_66 (by decide) ?_
              refine lv_icmp_ge (tgt := 89) hx hb dX6_craft_68 (by decide) (fun c_68 => ?_) (fun c_68 => absurd (by first | exact Int32.le_refl _ | decide) c_68)
              have hw := g_reI (q0 := 4) (g := flN tt gg9 n) hw rfl (cpI_n _ fl 18)
              have hw : g_W D A s [(o, .inr (6, [.int 0, .ref tx, .int (nI len), u3, u4, u5, .ref fa, .int (nI (cwN tt (6 + 7 * n))), .int (nI (cfN tt (6 + 7 * n))), .ref ra, .ref rp, .ref pa, .ref va, u13, u14, u15, u16, u17, u18, u19, .ref ik, u21, u22, u23, u24, u25, u26, u27, u28, u29, u30, u31, u32, u33, u34, u35])), (tx, .inl (E 0, 120, .inl (txF tt))), (rp, .inl (E 0, 29, .inl (pgF (rcS tt n)))), (ra, .inl (E 0, 18, .inl (flN tt gg9 n))), (fa, .inl (E 0, 18, .inl (flN tt gg9 n))), (pa, .inl (E 0, 29, .inl (pgF (rcS tt n)))), (va, .inl (E 1, 5, .inr (.inr (.inl (fl5 (rcS tt n)))))), (ik, .inl (E 3, 2, .inl kb))] H locs := hw
              refine lv_aload_n hx hb dX6_craft_89 rfl (lv_at hl 0 rfl) ?_
              refine lv_aload_n hx hb dX6_craft_90 rfl (lv_at hl 0 rfl) ?_
              refine g_get (TT := TX6) hc hw inX6_craft_X6 0 7 7 rfl rfl (by decide) rfl rfl dX6_craft_91 ?_
              refine g_put (TT := TX6) hc hw inX6_craft_X6 tyX6 tyX6_ok nmX6 0 4 8 rfl rfl (by decide) rfl rfl rfl rfl (Nat.le_of_ble_eq_true rfl) dX6_craft_94 (fun H locs hw => ?_)
              have hw : g_W D A s [(o, .inr (6, [.int 0, .ref tx, .int (nI len), u3, .int (nI (cwN tt (6 + 7 * n))), u5, .ref fa, .int (nI (cwN tt (6 + 7 * n))), .int (nI (cfN tt (6 + 7 * n))), .ref ra, .ref rp, .ref pa, .ref va, u13, u14, u15, u16, u17, u18, u19, .ref ik, u21, u22, u23, u24, u25, u26, u27, u28, u29, u30, u31, u32, u33, u34, u35])), (tx, .inl (E 0, 120, .inl (txF tt))), (rp, .inl (E 0, 29, .inl (pgF (rcS tt n)))), (ra, .inl (E 0, 18, .inl (flN tt gg9 n))), (fa, .inl (E 0, 18, .inl (flN tt gg9 n))), (pa, .inl (E 0, 29, .inl (pgF (rcS tt n)))), (va, .inl (E 1, 5, .inr (.inr (.inl (fl5 (rcS tt n)))))), (ik, .inl (E 3, 2, .inl kb))] H locs := hw
              refine lv_aload_n hx hb dX6_craft_97 rfl (lv_at hl 0 rfl) ?_
              refine lv_aload_n hx hb dX6_craft_98 rfl (lv_at hl 0 rfl) ?_
              refine g_get (TT := TX6) hc hw inX6_craft_X6 0 8 9 rfl rfl (by decide) rfl rfl dX6_craft_99 ?_
              refine g_put (TT := TX6) hc hw inX6_craft_X6 tyX6 tyX6_ok nmX6 0 5 10 rfl rfl (by decide) rfl rfl rfl rfl (Nat.le_of_ble_eq_true rfl) dX6_craft_102 (fun H locs hw => ?_)
              have hw : g_W D A s [(o, .inr (6, [.int 0, .ref tx, .int (nI len), u3, .int (nI (cwN tt (6 + 7 * n))), .int (nI (cfN tt (6 + 7 * n))), .ref fa, .int (nI (cwN tt (6 + 7 * n))), .int (nI (cfN tt (6 + 7 * n))), .ref ra, .ref rp, .ref pa, .ref va, u13, u14, u15, u16, u17, u18, u19, .ref ik, u21, u22, u23, u24, u25, u26, u27, u28, u29, u30, u31, u32, u33, u34, u35])), (tx, .inl (E 0, 120, .inl (txF tt))), (rp, .inl (E 0, 29, .inl (pgF (rcS tt n)))), (ra, .inl (E 0, 18, .inl (flN tt gg9 n))), (fa, .inl (E 0, 18, .inl (flN tt gg9 n))), (pa, .inl (E 0, 29, .inl (pgF (rcS tt n)))), (va, .inl (E 1, 5, .inr (.inr (.inl (fl5 (rcS tt n)))))), (ik, .inl (E 3, 2, .inl kb))] H locs := hw
              refine lv_aload_n hx hb dX6_craft_105 rfl (lv_at hl 0 rfl) ?_
              refine lv_iconst (v := 0) hx hb dX6_craft_106 (by decide) ?_
              refine g_put (TT := TX6) hc hw inX6_craft_X6 tyX6 tyX6_ok nmX6 0 17 11 rfl rfl (by decide) rfl rfl rfl rfl (Nat.le_of_ble_eq_true rfl) dX6_craft_107 (fun H locs hw => ?_)
              have hw : g_W D A s [(o, .inr (6, [.int 0, .ref tx, .int (nI len), u3, .int (nI (cwN tt (6 + 7 * n))), .int (nI (cfN tt (6 + 7 * n))), .ref fa, .int (nI (cwN tt (6 + 7 * n))), .int (nI (cfN tt (6 + 7 * n))), .ref ra, .ref rp, .ref pa, .ref va, u13, u14, u15, u16, .int 0, u18, u19, .ref ik, u21, u22, u23, u24, u25, u26, u27, u28, u29, u30, u31, u32, u33, u34, u35])), (tx, .inl (E 0, 120, .inl (txF tt))), (rp, .inl (E 0, 29, .inl (pgF (rcS tt n)))), (ra, .inl (E 0, 18, .inl (flN tt gg9 n))), (fa, .inl (E 0, 18, .inl (flN tt gg9 n))), (pa, .inl (E 0, 29, .inl (pgF (rcS tt n)))), (va, .inl (E 1, 5, .inr (.inr (.inl (fl5 (rcS tt n)))))), (ik, .inl (E 3, 2, .inl kb))] H locs := hw
              refine lv_aload_n hx hb dX6_craft_110 rfl (lv_at hl 0 rfl) ?_
              refine g_get (TT := TX6) hc hw inX6_craft_X6 0 20 12 rfl rfl (by decide) rfl rfl dX6_craft_111 ?_
              refine lv_iconst (v := 0) hx hb dX6_craft_114 (by decide) ?_
              refine lv_iconst (v := 0) hx hb dX6_craft_115 (by decide) ?_
              refine g_zst (x' := 0) hc hw 7 0 rfl rfl (by omega) (by decide) rfl dX6_craft_116 (fun H locs hw => ?_)
              have hw : g_W D A s [(o, .inr (6, [.int 0, .ref tx, .int (nI len), u3, .int (nI (cwN tt (6 + 7 * n))), .int (nI (cfN tt (6 + 7 * n))), .ref fa, .int (nI (cwN tt (6 + 7 * n))), .int (nI (cfN tt (6 + 7 * n))), .ref ra, .ref rp, .ref pa, .ref va, u13, u14, u15, u16, .int 0, u18, u19, .ref ik, u21, u22, u23, u24, u25, u26, u27, u28, u29, u30, u31, u32, u33, u34, u35])), (tx, .inl (E 0, 120, .inl (txF tt))), (rp, .inl (E 0, 29, .inl (pgF (rcS tt n)))), (ra, .inl (E 0, 18, .inl (flN tt gg9 n))), (fa, .inl (E 0, 18, .inl (flN tt gg9 n))), (pa, .inl (E 0, 29, .inl (pgF (rcS tt n)))), (va, .inl (E 1, 5, .inr (.inr (.inl (fl5 (rcS tt n)))))), (ik, .inl (E 3, 2, .inl (upd kb 0 0)))] H locs := hw
              refine lv_aload_n hx hb dX6_craft_117 rfl (lv_at hl 0 rfl) ?_
              refine g_get (TT := TX6) hc hw inX6_craft_X6 0 20 12 rfl rfl (by decide) rfl rfl dX6_craft_118 ?_
              refine lv_iconst (v := 1) hx hb dX6_craft_121 (by decide) ?_
              refine lv_iconst (v := 0) hx hb dX6_craft_122 (by decide) ?_
              refine g_zst (x' := 0) hc hw 7 1 rfl rfl (by omega) (by decide) rfl dX6_craft_123 (fun H locs hw => ?_)
              have hw : g_W D A s [(o, .inr (6, [.int 0, .ref tx, .int (nI len), u3, .int (nI (cwN tt (6 + 7 * n))), .int (nI (cfN tt (6 + 7 * n))), .ref fa, .int (nI (cwN tt (6 + 7 * n))), .int (nI (cfN tt (6 + 7 * n))), .ref ra, .ref rp, .ref pa, .ref va, u13, u14, u15, u16, .int 0, u18, u19, .ref ik, u21, u22, u23, u24, u25, u26, u27, u28, u29, u30, u31, u32, u33, u34, u35])), (tx, .inl (E 0, 120, .inl (txF tt))), (rp, .inl (E 0, 29, .inl (pgF (rcS tt n)))), (ra, .inl (E 0, 18, .inl (flN tt gg9 n))), (fa, .inl (E 0, 18, .inl (flN tt gg9 n))), (pa, .inl (E 0, 29, .inl (pgF (rcS tt n)))), (va, .inl (E 1, 5, .inr (.inr (.inl (fl5 (rcS tt n)))))), (ik, .inl (E 3, 2, .inl (upd (upd kb 0 0) 1 0)))] H locs := hw
              refine lv_aload_n hx hb dX6_craft_124 rfl (lv_at hl 0 rfl) ?_
              refine g_get (TT := TX6) hc hw inX6_craft_X6 0 4 8 rfl rfl (by decide) rfl rfl dX6_craft_125 ?_
              exact g_iret hQ hc hw hr rfl (by rw [ik_2 kb]) dX6_craft_128
            | succ k9 ih =>
              intro i h9   H locs ls hw hl
              have h9b : i < 18 := by omega
              refine lv_iload_n hx hb dX6_craft_65 rfl (lv_at hl 1 rfl) ?_
              refine lv_bipush (v := 18) hx hb dX6_craft_66 (by decide) ?_
              refine lv_icmp_ge (tgt := 89) hx hb dX6_craft_68 (by decide) (fun c_68 => absurd c_68 (nI_ge h9b (by decide))) (fun c_68 => ?_)
              refine lv_aload_n hx hb dX6_craft_71 rfl (lv_at hl 0 rfl) ?_
              refine g_get (TT := TX6) hc hw inX6_craft_X6 0 6 5 rfl rfl (by decide) rfl rfl dX6_craft_72 ?_
              refine lv_iload_n hx hb dX6_craft_75 rfl (lv_at hl 1 rfl) ?_
              refine lv_aload_n hx hb dX6_craft_76 rfl (lv_at hl 0 rfl) ?_
              refine g_get (TT := TX6) hc hw inX6_craft_X6 0 9 6 rfl rfl (by decide) rfl rfl dX6_craft_77 ?_
              refine lv_iload_n hx hb dX6_craft_80 rfl (lv_at hl 1 rfl) ?_
              refine g_ild hc hw 3 i rfl rfl (by omega) (by decide) dX6_craft_81 ?_
              refine g_ist hc hw 4 i rfl rfl (by omega) (by decide) dX6_craft_82 (fun H locs hw => ?_)
              have hw : g_W D A s [(o, .inr (6, [.int 0, .ref tx, .int (nI len), u3, u4, u5, .ref fa, .int (nI (cwN tt (6 + 7 * n))), .int (nI (cfN tt (6 + 7 * n))), .ref ra, .ref rp, .ref pa, .ref va, u13, u14, u15, u16, u17, u18, u19, .ref ik, u21, u22, u23, u24, u25, u26, u27, u28, u29, u30, u31, u32, u33, u34, u35])), (tx, .inl (E 0, 120, .inl (txF tt))), (rp, .inl (E 0, 29, .inl (pgF (rcS tt n)))), (ra, .inl (E 0, 18, .inl (flN tt gg9 n))), (fa, .inl (E 0, 18, .inl (upd (cpI (flN tt gg9 n) fl i) i ((flN tt gg9 n) i)))), (pa, .inl (E 0, 29, .inl (pgF (rcS tt n)))), (va, .inl (E 1, 5, .inr (.inr (.inl (fl5 (rcS tt n)))))), (ik, .inl (E 3, 2, .inl kb))] H locs := hw
              refine lv_iinc (v := nI (i + 1)) (lv' := [(1, .int (nI (i + 1))), (0, .ref o)]) hx hb dX6_craft_83 hl (k := 1) rfl (n_inc1 rfl) (by decide) rfl (fun ls hl => ?_)
              refine lv_goto (tgt := 65) hx hb dX6_craft_86 (by decide) ?_
              have hw : g_W D A s [(o, .inr (6, [.int 0, .ref tx, .int (nI len), u3, u4, u5, .ref fa, .int (nI (cwN tt (6 + 7 * n))), .int (nI (cfN tt (6 + 7 * n))), .ref ra, .ref rp, .ref pa, .ref va, u13, u14, u15, u16, u17, u18, u19, .ref ik, u21, u22, u23, u24, u25, u26, u27, u28, u29, u30, u31, u32, u33, u34, u35])), (tx, .inl (E 0, 120, .inl (txF tt))), (rp, .inl (E 0, 29, .inl (pgF (rcS tt n)))), (ra, .inl (E 0, 18, .inl (flN tt gg9 n))), (fa, .inl (E 0, 18, .inl (cpI (flN tt gg9 n) fl (i + 1)))), (pa, .inl (E 0, 29, .inl (pgF (rcS tt n)))), (va, .inl (E 1, 5, .inr (.inr (.inl (fl5 (rcS tt n)))))), (ik, .inl (E 3, 2, .inl kb))] H locs := by
                have e4 : (upd (cpI (flN tt gg9 n) fl i) i ((flN tt gg9 n) i)) = (cpI (flN tt gg9 n) fl (i + 1)) := by exact cpI_s fl rfl
                rw [e4] at hw
                exact hw
              exact ih (i + 1) (by omega)   _ _ _ hw (lv_sub hl [1, 0] rfl)
          have hw : g_W D A s [(o, .inr (6, [.int 0, .ref tx, .int (nI len), u3, u4, u5, .ref fa, .int (nI (cwN tt (6 + 7 * n))), .int (nI (cfN tt (6 + 7 * n))), .ref ra, .ref rp, .ref pa, .ref va, u13, u14, u15, u16, u17, u18, u19, .ref ik, u21, u22, u23, u24, u25, u26, u27, u28, u29, u30, u31, u32, u33, u34, u35])), (tx, .inl (E 0, 120, .inl (txF tt))), (rp, .inl (E 0, 29, .inl (pgF (rcS tt n)))), (ra, .inl (E 0, 18, .inl (flN tt gg9 n))), (fa, .inl (E 0, 18, .inl (cpI (flN tt gg9 n) fl 0))), (pa, .inl (E 0, 29, .inl (pgF (rcS tt n)))), (va, .inl (E 1, 5, .inr (.inr (.inl (fl5 (rcS tt n)))))), (ik, .inl (E 3, 2, .inl kb))] H locs := by
            have e4 : fl = (cpI (flN tt gg9 n) fl 0) := by exact cpI_0 _ fl
            rw [e4] at hw
            exact hw
          exact J65 18 0 (by omega)   _ _ _ hw (lv_sub hl [1, 0] rfl)
        | succ k9 ih =>
          intro i h9   H locs ls hw hl
          have h9b : i < 5 := by omega
          refine lv_iload_n hx hb dX6_craft_45 rfl (lv_at hl 1 rfl) ?_
          refine lv_iconst (v := 5) hx hb dX6_craft_46 (by decide) ?_
          refine lv_icmp_ge (tgt := 63) hx hb dX6_craft_47 (by decide) (fun c_47 => absurd c_47 (nI_ge h9b (by decide))) (fun c_47 => ?_)
          refine lv_aload_n hx hb dX6_craft_50 rfl (lv_at hl 0 rfl) ?_
          refine g_get (TT := TX6) hc hw inX6_craft_X6 0 12 4 rfl rfl (by decide) rfl rfl dX6_craft_51 ?_
          refine lv_iload_n hx hb dX6_craft_54 rfl (lv_at hl 1 rfl) ?_
          refine lv_fconst0 hx hb dX6_craft_55 ?_
          refine g_fst hc hw 6 i rfl rfl (by omega) (by decide) dX6_craft_56 (fun H locs hw => ?_)
          have hw : g_W D A s [(o, .inr (6, [.int 0, .ref tx, .int (nI len), u3, u4, u5, .ref fa, .int (nI (cwN tt (6 + 7 * n))), .int (nI (cfN tt (6 + 7 * n))), .ref ra, .ref rp, .ref pa, .ref va, u13, u14, u15, u16, u17, u18, u19, .ref ik, u21, u22, u23, u24, u25, u26, u27, u28, u29, u30, u31, u32, u33, u34, u35])), (tx, .inl (E 0, 120, .inl (txF tt))), (rp, .inl (E 0, 29, .inl (pgF (rcS tt n)))), (ra, .inl (E 0, 18, .inl (flN tt gg9 n))), (fa, .inl (E 0, 18, .inl fl)), (pa, .inl (E 0, 29, .inl (pgF (rcS tt n)))), (va, .inl (E 1, 5, .inr (.inr (.inl (vf_upd (cpF (fl5 (rcS tt n)) fs i) i FP.fconst0))))), (ik, .inl (E 3, 2, .inl kb))] H locs := hw
          refine lv_iinc (v := nI (i + 1)) (lv' := [(1, .int (nI (i + 1))), (0, .ref o)]) hx hb dX6_craft_57 hl (k := 1) rfl (n_inc1 rfl) (by decide) rfl (fun ls hl => ?_)
          refine lv_goto (tgt := 45) hx hb dX6_craft_60 (by decide) ?_
          have hw : g_W D A s [(o, .inr (6, [.int 0, .ref tx, .int (nI len), u3, u4, u5, .ref fa, .int (nI (cwN tt (6 + 7 * n))), .int (nI (cfN tt (6 + 7 * n))), .ref ra, .ref rp, .ref pa, .ref va, u13, u14, u15, u16, u17, u18, u19, .ref ik, u21, u22, u23, u24, u25, u26, u27, u28, u29, u30, u31, u32, u33, u34, u35])), (tx, .inl (E 0, 120, .inl (txF tt))), (rp, .inl (E 0, 29, .inl (pgF (rcS tt n)))), (ra, .inl (E 0, 18, .inl (flN tt gg9 n))), (fa, .inl (E 0, 18, .inl fl)), (pa, .inl (E 0, 29, .inl (pgF (rcS tt n)))), (va, .inl (E 1, 5, .inr (.inr (.inl (cpF (fl5 (rcS tt n)) fs (i + 1)))))), (ik, .inl (E 3, 2, .inl kb))] H locs := by
            have e6 : (vf_upd (cpF (fl5 (rcS tt n)) fs i) i FP.fconst0) = (cpF (fl5 (rcS tt n)) fs (i + 1)) := by exact cpF_s fs (rc_f5 tt n i).symm
            rw [e6] at hw
            exact hw
          exact ih (i + 1) (by omega)   _ _ _ hw (lv_sub hl [1, 0] rfl)
      have hw : g_W D A s [(o, .inr (6, [.int 0, .ref tx, .int (nI len), u3, u4, u5, .ref fa, .int (nI (cwN tt (6 + 7 * n))), .int (nI (cfN tt (6 + 7 * n))), .ref ra, .ref rp, .ref pa, .ref va, u13, u14, u15, u16, u17, u18, u19, .ref ik, u21, u22, u23, u24, u25, u26, u27, u28, u29, u30, u31, u32, u33, u34, u35])), (tx, .inl (E 0, 120, .inl (txF tt))), (rp, .inl (E 0, 29, .inl (pgF (rcS tt n)))), (ra, .inl (E 0, 18, .inl (flN tt gg9 n))), (fa, .inl (E 0, 18, .inl fl)), (pa, .inl (E 0, 29, .inl (pgF (rcS tt n)))), (va, .inl (E 1, 5, .inr (.inr (.inl (cpF (fl5 (rcS tt n)) fs 0))))), (ik, .inl (E 3, 2, .inl kb))] H locs := by
        have e6 : fs = (cpF (fl5 (rcS tt n)) fs 0) := by exact cpF_0 _ fs
        rw [e6] at hw
        exact hw
      exact J45 5 0 (by omega)   _ _ _ hw (lv_sub hl [1, 0] rfl)
    | succ k9 ih =>
      intro i h9   H locs ls hw hl
      have h9b : i < 29 := by omega
      refine lv_iload_n hx hb dX6_craft_19 rfl (lv_at hl 1 rfl) ?_
      refine lv_bipush (v := 29) hx hb dX6_craft_20 (by decide) ?_
      refine lv_icmp_ge (tgt := 43) hx hb dX6_craft_22 (by decide) (fun c_22 => absurd c_22 (nI_ge h9b (by decide))) (fun c_22 => ?_)
      refine lv_aload_n hx hb dX6_craft_25 rfl (lv_at hl 0 rfl) ?_
      refine g_get (TT := TX6) hc hw inX6_craft_X6 0 11 2 rfl rfl (by decide) rfl rfl dX6_craft_26 ?_
      refine lv_iload_n hx hb dX6_craft_29 rfl (lv_at hl 1 rfl) ?_
      refine lv_aload_n hx hb dX6_craft_30 rfl (lv_at hl 0 rfl) ?_
      refine g_get (TT := TX6) hc hw inX6_craft_X6 0 10 3 rfl rfl (by decide) rfl rfl dX6_craft_31 ?_
      refine lv_iload_n hx hb dX6_craft_34 rfl (lv_at hl 1 rfl) ?_
      refine g_ild hc hw 2 i rfl rfl (by omega) (by decide) dX6_craft_35 ?_
      refine g_ist hc hw 5 i rfl rfl (by omega) (by decide) dX6_craft_36 (fun H locs hw => ?_)
      have hw : g_W D A s [(o, .inr (6, [.int 0, .ref tx, .int (nI len), u3, u4, u5, .ref fa, .int (nI (cwN tt (6 + 7 * n))), .int (nI (cfN tt (6 + 7 * n))), .ref ra, .ref rp, .ref pa, .ref va, u13, u14, u15, u16, u17, u18, u19, .ref ik, u21, u22, u23, u24, u25, u26, u27, u28, u29, u30, u31, u32, u33, u34, u35])), (tx, .inl (E 0, 120, .inl (txF tt))), (rp, .inl (E 0, 29, .inl (pgF (rcS tt n)))), (ra, .inl (E 0, 18, .inl (flN tt gg9 n))), (fa, .inl (E 0, 18, .inl fl)), (pa, .inl (E 0, 29, .inl (upd (cpI (pgF (rcS tt n)) pg i) i ((pgF (rcS tt n)) i)))), (va, .inl (E 1, 5, .inr (.inr (.inl fs)))), (ik, .inl (E 3, 2, .inl kb))] H locs := hw
      refine lv_iinc (v := nI (i + 1)) (lv' := [(1, .int (nI (i + 1))), (0, .ref o)]) hx hb dX6_craft_37 hl (k := 1) rfl (n_inc1 rfl) (by decide) rfl (fun ls hl => ?_)
      refine lv_goto (tgt := 19) hx hb dX6_craft_40 (by decide) ?_
      have hw : g_W D A s [(o, .inr (6, [.int 0, .ref tx, .int (nI len), u3, u4, u5, .ref fa, .int (nI (cwN tt (6 + 7 * n))), .int (nI (cfN tt (6 + 7 * n))), .ref ra, .ref rp, .ref pa, .ref va, u13, u14, u15, u16, u17, u18, u19, .ref ik, u21, u22, u23, u24, u25, u26, u27, u28, u29, u30, u31, u32, u33, u34, u35])), (tx, .inl (E 0, 120, .inl (txF tt))), (rp, .inl (E 0, 29, .inl (pgF (rcS tt n)))), (ra, .inl (E 0, 18, .inl (flN tt gg9 n))), (fa, .inl (E 0, 18, .inl fl)), (pa, .inl (E 0, 29, .inl (cpI (pgF (rcS tt n)) pg (i + 1)))), (va, .inl (E 1, 5, .inr (.inr (.inl fs)))), (ik, .inl (E 3, 2, .inl kb))] H locs := by
        have e5 : (upd (cpI (pgF (rcS tt n)) pg i) i ((pgF (rcS tt n)) i)) = (cpI (pgF (rcS tt n)) pg (i + 1)) := by exact cpI_s pg rfl
        rw [e5] at hw
        exact hw
      exact ih (i + 1) (by omega)   _ _ _ hw (lv_sub hl [1, 0] rfl)
  have hw : g_W D A s [(o, .inr (6, [.int 0, .ref tx, .int (nI len), u3, u4, u5, .ref fa, .int (nI (cwN tt (6 + 7 * n))), .int (nI (cfN tt (6 + 7 * n))), .ref ra, .ref rp, .ref pa, .ref va, u13, u14, u15, u16, u17, u18, u19, .ref ik, u21, u22, u23, u24, u25, u26, u27, u28, u29, u30, u31, u32, u33, u34, u35])), (tx, .inl (E 0, 120, .inl (txF tt))), (rp, .inl (E 0, 29, .inl (pgF (rcS tt n)))), (ra, .inl (E 0, 18, .inl (flN tt gg9 n))), (fa, .inl (E 0, 18, .inl fl)), (pa, .inl (E 0, 29, .inl (cpI (pgF (rcS tt n)) pg 0))), (va, .inl (E 1, 5, .inr (.inr (.inl fs)))), (ik, .inl (E 3, 2, .inl kb))] H locs := by
    have e5 : pg = (cpI (pgF (rcS tt n)) pg 0) := by exact cpI_0 _ pg
    rw [e5] at hw
    exact hw
  exact J19 29 0 (by omega)   _ _ _ hw (lv_sub hl [1, 0] rfl)
end P24
