section P19h
def cftS (tt : Nat → Nat) (S : TS) (n : Nat) : TS := (fun _ => FP.fconst0, seF tt, wtN tt (sW S) n, 0, 0, FP.fconst0, 0, 0, 0, 0, 0)
theorem dX5_craft_0 : decode cX5_craft 0 = .ok (.aload_n 0, 1) := by decide +kernel
theorem dX5_craft_1 : decode cX5_craft 1 = .ok (.getfield 10, 3) := by decide +kernel
theorem dX5_craft_4 : decode cX5_craft 4 = .ok (.invokevirtual 71, 3) := by decide +kernel
theorem dX5_craft_7 : decode cX5_craft 7 = .ok (.bipush (-9), 2) := by decide +kernel
theorem dX5_craft_9 : decode cX5_craft 9 = .ok (.if_icmp .eq 6, 3) := by decide +kernel
theorem dX5_craft_12 : decode cX5_craft 12 = .ok (.bipush (-3), 2) := by decide +kernel
theorem dX5_craft_14 : decode cX5_craft 14 = .ok (.ireturn, 1) := by decide +kernel
set_option maxRecDepth 20000 in
theorem ggX5_craft_X2_faultAt : GoodIn wsX5_craft wsX2_faultAt := goodIn_r _ [9, 10, 11, 12, 13, 7, 14, 65, 66] rfl (by decide +kernel)
theorem inX5_craft_X5 : ∀ w ∈ u_ws RX5 TX5 11, w ∈ wsX5_craft := fun w h => List.mem_cons_of_mem _ (List.mem_append_left _ (List.mem_append_left _ (List.mem_append_left _ (List.mem_append_left _ (List.mem_append_right _ h)))))
set_option maxRecDepth 100000 in
set_option maxHeartbeats 4000000 in
theorem m_X5_craft_no {l : Launch} {D : va_G} {E : Nat → ClassId} {T : Nat → Nat} (ob : Nat) (sc : Nat) (tx : Nat) (len : Nat) (z1 : Value) (z2 : Value) (z3 : Value) (z4 : Value) (z5 : Value) (z6 : Value) (z7 : Value) (z8 : Value) (z9 : Value) (z10 : Value) (tt : Nat → Nat) (hl9 : len ≤ 120) (ht9 : ∀ j, tt j < 256) (hne : ¬ ftF tt len = -9) : g_M l D E T yX5_craft wsX5_craft 2 45 [.ref ob] [(ob, .inr (5, [.ref sc, z1, z2, z3, z4, z5, z6, z7, z8, z9, z10])), (sc, .inr (2, [.ref tx, .int (nI len)])), (tx, .inl (E 2, 120, .inl (txF tt)))] [(ob, .inr (5, [.ref sc, z1, z2, z3, z4, z5, z6, z7, z8, z9, z10])), (sc, .inr (2, [.ref tx, .int (nI len)])), (tx, .inl (E 2, 120, .inl (txF tt)))] (some (.int (-3))) := by
  refine g_M.of (cc := cX5_craft) (nL := 2) (ret := (some .int)) (own := RX5) (lv := [(0, .ref ob)]) (by decide) rfl rfl (Nat.le_of_ble_eq_true rfl) rfl ?_
  intro p e R s m args below meth c A Q H locs ls hR hQ hc hr hw hl
  have hx := hc.1
  have hb := hc.2.1
  have hts := hc.2.2.2.1
  have hown := hc.2.2.2.2.1
  refine lv_aload_n hx hb dX5_craft_0 rfl (lv_at hl 0 rfl) ?_
  refine g_get (TT := TX5) hc hw inX5_craft_X5 0 0 1 rfl rfl (by decide) rfl rfl dX5_craft_1 ?_
  refine g_cVN (As := []) (n := 0) (rest := []) (wc := [(sc, .inr (2, [.ref tx, .int (nI len)])), (tx, .inl (E 2, 120, .inl (txF tt)))]) (w1 := [(sc, .inr (2, [.ref tx, .int (nI len)])), (tx, .inl (E 2, 120, .inl (txF tt)))]) (bytes := cX2_faultAt) (maxL := 5) (ret := (some .int)) hc hw hl.1 (m_X2_faultAt (l := l) (D := D) (E := E) (T := T) sc tx len tt (by first | assumption | omega | decide) (by first | assumption | omega | decide)) ggX5_craft_X2_faultAt rfl 48 rfl 7 6 8 rfl rfl rfl (by decide +kernel) (by rw [hR]; exact ⟨Nat.le_of_ble_eq_true rfl, Nat.le_of_ble_eq_true rfl⟩) [1, 2] 1 2 rfl rfl (by decide) rfl [sc, tx] rfl rfl rfl rfl (Nat.le_of_ble_eq_true rfl) dX5_craft_4 ⟨Nat.zero_le _, Nat.zero_le _⟩ (fun H locs hw => ?_)
  have hw : g_W D A s [(ob, .inr (5, [.ref sc, z1, z2, z3, z4, z5, z6, z7, z8, z9, z10])), (sc, .inr (2, [.ref tx, .int (nI len)])), (tx, .inl (E 2, 120, .inl (txF tt)))] H locs := hw
  refine lv_bipush (v := (-9)) hx hb dX5_craft_7 (by decide) ?_
  refine lv_icmp_eq (tgt := 15) hx hb dX5_craft_9 (by decide) (fun c_9 => absurd c_9 hne) (fun c_9 => ?_)
  refine lv_bipush (v := (-3)) hx hb dX5_craft_12 (by decide) ?_
  exact g_iret hQ hc hw hr rfl rfl dX5_craft_14

theorem dX5_craft_15 : decode cX5_craft 15 = .ok (.aload_n 0, 1) := by decide +kernel
theorem dX5_craft_16 : decode cX5_craft 16 = .ok (.getfield 26, 3) := by decide +kernel
theorem dX5_craft_19 : decode cX5_craft 19 = .ok (.invokevirtual 75, 3) := by decide +kernel
theorem dX5_craft_22 : decode cX5_craft 22 = .ok (.aload_n 0, 1) := by decide +kernel
theorem dX5_craft_23 : decode cX5_craft 23 = .ok (.getfield 10, 3) := by decide +kernel
theorem dX5_craft_26 : decode cX5_craft 26 = .ok (.aload_n 0, 1) := by decide +kernel
theorem dX5_craft_27 : decode cX5_craft 27 = .ok (.getfield 26, 3) := by decide +kernel
theorem dX5_craft_30 : decode cX5_craft 30 = .ok (.aload_n 0, 1) := by decide +kernel
theorem dX5_craft_31 : decode cX5_craft 31 = .ok (.getfield 19, 3) := by decide +kernel
theorem dX5_craft_34 : decode cX5_craft 34 = .ok (.invokevirtual 78, 3) := by decide +kernel
theorem dX5_craft_37 : decode cX5_craft 37 = .ok (.aload_n 0, 1) := by decide +kernel
theorem dX5_craft_38 : decode cX5_craft 38 = .ok (.getfield 36, 3) := by decide +kernel
theorem dX5_craft_41 : decode cX5_craft 41 = .ok (.invokevirtual 82, 3) := by decide +kernel
theorem dX5_craft_44 : decode cX5_craft 44 = .ok (.iconst 0, 1) := by decide +kernel
theorem dX5_craft_45 : decode cX5_craft 45 = .ok (.istore_n 1, 1) := by decide +kernel
theorem dX5_craft_46 : decode cX5_craft 46 = .ok (.iload_n 1, 1) := by decide +kernel
theorem dX5_craft_47 : decode cX5_craft 47 = .ok (.iconst 2, 1) := by decide +kernel
theorem dX5_craft_48 : decode cX5_craft 48 = .ok (.if_icmp .ge 16, 3) := by decide +kernel
theorem dX5_craft_51 : decode cX5_craft 51 = .ok (.aload_n 0, 1) := by decide +kernel
theorem dX5_craft_52 : decode cX5_craft 52 = .ok (.getfield 44, 3) := by decide +kernel
theorem dX5_craft_55 : decode cX5_craft 55 = .ok (.iload_n 1, 1) := by decide +kernel
theorem dX5_craft_56 : decode cX5_craft 56 = .ok (.iconst 0, 1) := by decide +kernel
theorem dX5_craft_57 : decode cX5_craft 57 = .ok (.bastore, 1) := by decide +kernel
theorem dX5_craft_58 : decode cX5_craft 58 = .ok (.iinc 1 1, 3) := by decide +kernel
theorem dX5_craft_61 : decode cX5_craft 61 = .ok (.goto (-15), 3) := by decide +kernel
theorem dX5_craft_64 : decode cX5_craft 64 = .ok (.aload_n 0, 1) := by decide +kernel
theorem dX5_craft_65 : decode cX5_craft 65 = .ok (.getfield 19, 3) := by decide +kernel
theorem dX5_craft_68 : decode cX5_craft 68 = .ok (.getfield 85, 3) := by decide +kernel
theorem dX5_craft_71 : decode cX5_craft 71 = .ok (.ireturn, 1) := by decide +kernel
set_option maxRecDepth 20000 in
theorem ggX5_craft_X4_clear : GoodIn wsX5_craft wsX4_clear := goodIn_r _ [18, 19, 20, 21, 22, 23, 24, 25, 26, 27, 67, 68, 69, 70, 71, 72, 73, 74, 75, 76, 77] rfl (by decide +kernel)
set_option maxRecDepth 20000 in
theorem ggX5_craft_X2_readInto : GoodIn wsX5_craft wsX2_readInto := goodIn_r _ [30, 10, 11, 31, 32, 33, 7, 34, 35, 36, 37, 38, 67, 68, 69, 70, 71, 72, 73, 74, 75, 76, 77, 55, 56, 57, 58, 59, 60, 61, 62, 63, 64, 65, 66] rfl (by decide +kernel)
set_option maxRecDepth 20000 in
theorem ggX5_craft_X0_forget : GoodIn wsX5_craft wsX0_forget := goodIn_r _ [42, 43, 78, 79, 80] rfl (by decide +kernel)
theorem inX5_craft_X1 : ∀ w ∈ u_ws RX1 TX1 10, w ∈ wsX5_craft := fun w h => List.mem_cons_of_mem _ (List.mem_append_left _ (List.mem_append_left _ (List.mem_append_left _ (List.mem_append_right _ h))))
set_option maxRecDepth 100000 in
set_option maxHeartbeats 4000000 in
theorem m_X5_craft {l : Launch} {D : va_G} {E : Nat → ClassId} {T : Nat → Nat} (ob : Nat) (sc : Nat) (tx : Nat) (len : Nat) (pl : Nat) (h : Nat) (hs : Nat) (ht : Nat) (hq : Nat) (fa : Nat) (hi : Nat) (sv : Nat) (z3 : Value) (z5 : Value) (z7 : Value) (z8 : Value) (z9 : Value) (z10 : Value) (u1 : Value) (u2 : Value) (u3 : Value) (u4 : Value) (u5 : Value) (u6 : Value) (u7 : Value) (u8 : Value) (u9 : Value) (tt : Nat → Nat) (S : TS) (fl : Nat → Int32) (sb : Nat → Int32) (x0 : Value) (x1 : Value) (x2 : Value) (n : Nat) (hl9 : len = 6 + 7 * n) (hn : n ≤ 12) (ht9 : ∀ j, tt j < 256) (hall : ∀ j, j < len → okB tt j = true) (h99 : ftF tt len = -9) : g_M l D E T yX5_craft wsX5_craft 3 69 [.ref ob] [(ob, .inr (5, [.ref sc, .ref pl, .ref h, z3, .ref hi, z5, .ref sv, z7, z8, z9, z10])), (sc, .inr (2, [.ref tx, .int (nI len)])), (tx, .inl (E 2, 120, .inl (txF tt))), (h, .inr (4, [.ref hs, .ref ht, .ref hq, .int (nI (sD S)), .int (sM S), .float (sP S), .int (sI S), .int (sC S), .int (sA S), .int (sR S), .int (nI (sK S))])), (hs, .inl (E 1, 4, .inr (.inr (.inl (sF S))))), (ht, .inl (E 0, 4, .inl (sT S))), (hq, .inl (E 0, 18, .inl (sW S))), (pl, .inr (1, [.ref fa, u1, u2, u3, u4, u5, u6, u7, u8, u9])), (fa, .inl (E 0, 18, .inl fl)), (hi, .inr (0, [x0, x1, x2])), (sv, .inl (E 3, 2, .inl sb))] [(ob, .inr (5, [.ref sc, .ref pl, .ref h, z3, .ref hi, z5, .ref sv, z7, z8, z9, z10])), (sc, .inr (2, [.ref tx, .int (nI len)])), (tx, .inl (E 2, 120, .inl (txF tt))), (h, .inr (4, [.ref hs, .ref ht, .ref hq, .int (nI (sD (cftS tt S n))), .int (sM (cftS tt S n)), .float (sP (cftS tt S n)), .int (sI (cftS tt S n)), .int (sC (cftS tt S n)), .int (sA (cftS tt S n)), .int (sR (cftS tt S n)), .int (nI (sK (cftS tt S n)))])), (hs, .inl (E 1, 4, .inr (.inr (.inl (sF (cftS tt S n)))))), (ht, .inl (E 0, 4, .inl (sT (cftS tt S n)))), (hq, .inl (E 0, 18, .inl (sW (cftS tt S n)))), (pl, .inr (1, [.ref fa, .int (nI (cfN tt (6 + 7 * n))), .int (nI (cwN tt (6 + 7 * n))), u3, u4, u5, u6, u7, u8, u9])), (fa, .inl (E 0, 18, .inl (flN tt fl n))), (hi, .inr (0, [x0, .int 0, x2])), (sv, .inl (E 3, 2, .inl (cpI (fun _ => 0) sb 2)))] (some (.int (nI (cwN tt (6 + 7 * n))))) := by
  refine g_M.of (cc := cX5_craft) (nL := 2) (ret := (some .int)) (own := RX5) (lv := [(0, .ref ob)]) (by decide) rfl rfl (Nat.le_of_ble_eq_true rfl) rfl ?_
  intro p e R s m args below meth c A Q H locs ls hR hQ hc hr hw hl
  have hx := hc.1
  have hb := hc.2.1
  have hts := hc.2.2.2.1
  have hown := hc.2.2.2.2.1
  refine lv_aload_n hx hb dX5_craft_0 rfl (lv_at hl 0 rfl) ?_
  refine g_get (TT := TX5) hc hw inX5_craft_X5 0 0 1 rfl rfl (by decide) rfl rfl dX5_craft_1 ?_
  refine g_cVN (As := []) (n := 0) (rest := []) (wc := [(sc, .inr (2, [.ref tx, .int (nI len)])), (tx, .inl (E 2, 120, .inl (txF tt)))]) (w1 := [(sc, .inr (2, [.ref tx, .int (nI len)])), (tx, .inl (E 2, 120, .inl (txF tt)))]) (bytes := cX2_faultAt) (maxL := 5) (ret := (some .int)) hc hw hl.1 (m_X2_faultAt (l := l) (D := D) (E := E) (T := T) sc tx len tt (by omega) (by first | assumption | omega | decide)) ggX5_craft_X2_faultAt rfl 48 rfl 7 6 8 rfl rfl rfl (by decide +kernel) (by rw [hR]; exact ⟨Nat.le_of_ble_eq_true rfl, Nat.le_of_ble_eq_true rfl⟩) [1, 2] 1 2 rfl rfl (by decide) rfl [sc, tx] rfl rfl rfl rfl (Nat.le_of_ble_eq_true rfl) dX5_craft_4 ⟨Nat.zero_le _, Nat.zero_le _⟩ (fun H locs hw => ?_)
  have hw : g_W D A s [(ob, .inr (5, [.ref sc, .ref pl, .ref h, z3, .ref hi, z5, .ref sv, z7, z8, z9, z10])), (sc, .inr (2, [.ref tx, .int (nI len)])), (tx, .inl (E 2, 120, .inl (txF tt))), (h, .inr (4, [.ref hs, .ref ht, .ref hq, .int (nI (sD S)), .int (sM S), .float (sP S), .int (sI S), .int (sC S), .int (sA S), .int (sR S), .int (nI (sK S))])), (hs, .inl (E 1, 4, .inr (.inr (.inl (sF S))))), (ht, .inl (E 0, 4, .inl (sT S))), (hq, .inl (E 0, 18, .inl (sW S))), (pl, .inr (1, [.ref fa, u1, u2, u3, u4, u5, u6, u7, u8, u9])), (fa, .inl (E 0, 18, .inl fl)), (hi, .inr (0, [x0, x1, x2])), (sv, .inl (E 3, 2, .inl sb))] H locs := hw
  refine lv_bipush (v := (-9)) hx hb dX5_craft_7 (by decide) ?_
  refine lv_icmp_eq (tgt := 15) hx hb dX5_craft_9 (by decide) (fun c_9 => ?_) (fun c_9 => absurd h99 c_9)
  refine lv_aload_n hx hb dX5_craft_15 rfl (lv_at hl 0 rfl) ?_
  refine g_get (TT := TX5) hc hw inX5_craft_X5 0 2 2 rfl rfl (by decide) rfl rfl dX5_craft_16 ?_
  refine g_cVN (As := []) (n := 0) (rest := []) (wc := [(h, .inr (4, [.ref hs, .ref ht, .ref hq, .int (nI (sD S)), .int (sM S), .float (sP S), .int (sI S), .int (sC S), .int (sA S), .int (sR S), .int (nI (sK S))])), (hs, .inl (E 1, 4, .inr (.inr (.inl (sF S)))))]) (w1 := [(h, .inr (4, [.ref hs, .ref ht, .ref hq, .int 0, .int 0, .float FP.fconst0, .int 0, .int 0, .int 0, .int 0, .int 0])), (hs, .inl (E 1, 4, .inr (.inr (.inl (fun _ => FP.fconst0)))))]) (bytes := cX4_clear) (maxL := 2) (ret := none) hc hw hl.1 (m_X4_clear (l := l) (D := D) (E := E) (T := T) h (.ref ht) (.ref hq) hs (sF S) (.int (nI (sD S))) (.int (sM S)) (.float (sP S)) (.int (sI S)) (.int (sC S)) (.int (sA S)) (.int (sR S)) (.int (nI (sK S)))) ggX5_craft_X4_clear rfl 49 rfl 16 15 17 rfl rfl rfl (by decide +kernel) (by rw [hR]; exact ⟨Nat.le_of_ble_eq_true rfl, Nat.le_of_ble_eq_true rfl⟩) [3, 4] 3 4 rfl rfl (by decide) rfl [h, hs] rfl rfl rfl rfl (Nat.le_of_ble_eq_true rfl) dX5_craft_19 ⟨Nat.zero_le _, Nat.zero_le _⟩ (fun H locs hw => ?_)
  have hw : g_W D A s [(ob, .inr (5, [.ref sc, .ref pl, .ref h, z3, .ref hi, z5, .ref sv, z7, z8, z9, z10])), (sc, .inr (2, [.ref tx, .int (nI len)])), (tx, .inl (E 2, 120, .inl (txF tt))), (h, .inr (4, [.ref hs, .ref ht, .ref hq, .int 0, .int 0, .float FP.fconst0, .int 0, .int 0, .int 0, .int 0, .int 0])), (hs, .inl (E 1, 4, .inr (.inr (.inl (fun _ => FP.fconst0))))), (ht, .inl (E 0, 4, .inl (sT S))), (hq, .inl (E 0, 18, .inl (sW S))), (pl, .inr (1, [.ref fa, u1, u2, u3, u4, u5, u6, u7, u8, u9])), (fa, .inl (E 0, 18, .inl fl)), (hi, .inr (0, [x0, x1, x2])), (sv, .inl (E 3, 2, .inl sb))] H locs := hw
  refine lv_aload_n hx hb dX5_craft_22 rfl (lv_at hl 0 rfl) ?_
  refine g_get (TT := TX5) hc hw inX5_craft_X5 0 0 1 rfl rfl (by decide) rfl rfl dX5_craft_23 ?_
  refine lv_aload_n hx hb dX5_craft_26 rfl (lv_at hl 0 rfl) ?_
  refine g_get (TT := TX5) hc hw inX5_craft_X5 0 2 2 rfl rfl (by decide) rfl rfl dX5_craft_27 ?_
  refine lv_aload_n hx hb dX5_craft_30 rfl (lv_at hl 0 rfl) ?_
  refine g_get (TT := TX5) hc hw inX5_craft_X5 0 1 3 rfl rfl (by decide) rfl rfl dX5_craft_31 ?_
  refine g_cVN (As := [.ref h, .ref pl]) (n := 2) (rest := []) (wc := [(sc, .inr (2, [.ref tx, .int (nI len)])), (tx, .inl (E 2, 120, .inl (txF tt))), (h, .inr (4, [.ref hs, .ref ht, .ref hq, .int 0, .int 0, .float FP.fconst0, .int 0, .int 0, .int 0, .int 0, .int 0])), (pl, .inr (1, [.ref fa, u1, u2, u3, u4, u5, u6, u7, u8, u9])), (ht, .inl (E 0, 4, .inl (sT S))), (hq, .inl (E 0, 18, .inl (sW S))), (fa, .inl (E 0, 18, .inl fl))]) (w1 := [(sc, .inr (2, [.ref tx, .int (nI len)])), (tx, .inl (E 2, 120, .inl (txF tt))), (h, .inr (4, [.ref hs, .ref ht, .ref hq, .int 0, .int 0, .float FP.fconst0, .int 0, .int 0, .int 0, .int 0, .int 0])), (pl, .inr (1, [.ref fa, .int (nI (cfN tt (6 + 7 * n))), .int (nI (cwN tt (6 + 7 * n))), u3, u4, u5, u6, u7, u8, u9])), (ht, .inl (E 0, 4, .inl (seF tt))), (hq, .inl (E 0, 18, .inl (wtN tt (sW S) n))), (fa, .inl (E 0, 18, .inl (flN tt fl n)))]) (bytes := cX2_readInto) (maxL := 4) (ret := none) hc hw hl.1 (m_X2_readInto (l := l) (D := D) (E := E) (T := T) sc tx len h ht hq pl fa (.ref hs) (.int 0) (.int 0) (.float FP.fconst0) (.int 0) (.int 0) (.int 0) (.int 0) (.int 0) u1 u2 u3 u4 u5 u6 u7 u8 u9 tt (sT S) (sW S) fl n hl9 (by first | assumption | omega | decide) (by first | assumption | omega | decide) (by first | assumption | omega | decide)) ggX5_craft_X2_readInto rfl 50 rfl 7 28 29 rfl rfl rfl (by decide +kernel) (by rw [hR]; exact ⟨Nat.le_of_ble_eq_true rfl, Nat.le_of_ble_eq_true rfl⟩) [1, 2, 3, 7, 5, 6, 8] 1 2 rfl rfl (by decide) rfl [sc, tx, h, pl, ht, hq, fa] rfl rfl rfl rfl (Nat.le_of_ble_eq_true rfl) dX5_craft_34 ⟨Nat.zero_le _, Nat.zero_le _⟩ (fun H locs hw => ?_)
  have hw : g_W D A s [(ob, .inr (5, [.ref sc, .ref pl, .ref h, z3, .ref hi, z5, .ref sv, z7, z8, z9, z10])), (sc, .inr (2, [.ref tx, .int (nI len)])), (tx, .inl (E 2, 120, .inl (txF tt))), (h, .inr (4, [.ref hs, .ref ht, .ref hq, .int 0, .int 0, .float FP.fconst0, .int 0, .int 0, .int 0, .int 0, .int 0])), (hs, .inl (E 1, 4, .inr (.inr (.inl (fun _ => FP.fconst0))))), (ht, .inl (E 0, 4, .inl (seF tt))), (hq, .inl (E 0, 18, .inl (wtN tt (sW S) n))), (pl, .inr (1, [.ref fa, .int (nI (cfN tt (6 + 7 * n))), .int (nI (cwN tt (6 + 7 * n))), u3, u4, u5, u6, u7, u8, u9])), (fa, .inl (E 0, 18, .inl (flN tt fl n))), (hi, .inr (0, [x0, x1, x2])), (sv, .inl (E 3, 2, .inl sb))] H locs := hw
  have hw : g_W D A s [(ob, .inr (5, [.ref sc, .ref pl, .ref h, z3, .ref hi, z5, .ref sv, z7, z8, z9, z10])), (sc, .inr (2, [.ref tx, .int (nI len)])), (tx, .inl (E 2, 120, .inl (txF tt))), (h, .inr (4, [.ref hs, .ref ht, .ref hq, .int (nI (sD (cftS tt S n))), .int (sM (cftS tt S n)), .float (sP (cftS tt S n)), .int (sI (cftS tt S n)), .int (sC (cftS tt S n)), .int (sA (cftS tt S n)), .int (sR (cftS tt S n)), .int (nI (sK (cftS tt S n)))])), (hs, .inl (E 1, 4, .inr (.inr (.inl (sF (cftS tt S n)))))), (ht, .inl (E 0, 4, .inl (sT (cftS tt S n)))), (hq, .inl (E 0, 18, .inl (sW (cftS tt S n)))), (pl, .inr (1, [.ref fa, .int (nI (cfN tt (6 + 7 * n))), .int (nI (cwN tt (6 + 7 * n))), u3, u4, u5, u6, u7, u8, u9])), (fa, .inl (E 0, 18, .inl (flN tt fl n))), (hi, .inr (0, [x0, x1, x2])), (sv, .inl (E 3, 2, .inl sb))] H locs := hw
  refine lv_aload_n hx hb dX5_craft_37 rfl (lv_at hl 0 rfl) ?_
  refine g_get (TT := TX5) hc hw inX5_craft_X5 0 4 4 rfl rfl (by decide) rfl rfl dX5_craft_38 ?_
  refine g_cVN (As := []) (n := 0) (rest := []) (wc := [(hi, .inr (0, [x0, x1, x2]))]) (w1 := [(hi, .inr (0, [x0, .int 0, x2]))]) (bytes := cX0_forget) (maxL := 1) (ret := none) hc hw hl.1 (m_X0_forget (l := l) (D := D) (E := E) (T := T) hi x0 x1 x2) ggX5_craft_X0_forget rfl 51 rfl 40 39 41 rfl rfl rfl (by decide +kernel) (by rw [hR]; exact ⟨Nat.le_of_ble_eq_true rfl, Nat.le_of_ble_eq_true rfl⟩) [9] 9 0 rfl rfl (by decide) rfl [hi] rfl rfl rfl rfl (Nat.le_of_ble_eq_true rfl) dX5_craft_41 ⟨Nat.zero_le _, Nat.zero_le _⟩ (fun H locs hw => ?_)
  have hw : g_W D A s [(ob, .inr (5, [.ref sc, .ref pl, .ref h, z3, .ref hi, z5, .ref sv, z7, z8, z9, z10])), (sc, .inr (2, [.ref tx, .int (nI len)])), (tx, .inl (E 2, 120, .inl (txF tt))), (h, .inr (4, [.ref hs, .ref ht, .ref hq, .int (nI (sD (cftS tt S n))), .int (sM (cftS tt S n)), .float (sP (cftS tt S n)), .int (sI (cftS tt S n)), .int (sC (cftS tt S n)), .int (sA (cftS tt S n)), .int (sR (cftS tt S n)), .int (nI (sK (cftS tt S n)))])), (hs, .inl (E 1, 4, .inr (.inr (.inl (sF (cftS tt S n)))))), (ht, .inl (E 0, 4, .inl (sT (cftS tt S n)))), (hq, .inl (E 0, 18, .inl (sW (cftS tt S n)))), (pl, .inr (1, [.ref fa, .int (nI (cfN tt (6 + 7 * n))), .int (nI (cwN tt (6 + 7 * n))), u3, u4, u5, u6, u7, u8, u9])), (fa, .inl (E 0, 18, .inl (flN tt fl n))), (hi, .inr (0, [x0, .int 0, x2])), (sv, .inl (E 3, 2, .inl sb))] H locs := hw
  refine lv_iconst (v := 0) hx hb dX5_craft_44 (by decide) ?_
  refine lv_istore_n (lv' := [(1, .int 0), (0, .ref ob)]) hx hb dX5_craft_45 rfl hl (by decide) rfl (fun ls hl => ?_)
  have J46 : ∀ (k9 : Nat) (i : Nat), i + k9 = 2 → ∀ (H : Heap) (locs : List Loc) (ls : Array Slot), g_W D A s [(ob, .inr (5, [.ref sc, .ref pl, .ref h, z3, .ref hi, z5, .ref sv, z7, z8, z9, z10])), (sc, .inr (2, [.ref tx, .int (nI len)])), (tx, .inl (E 2, 120, .inl (txF tt))), (h, .inr (4, [.ref hs, .ref ht, .ref hq, .int (nI (sD (cftS tt S n))), .int (sM (cftS tt S n)), .float (sP (cftS tt S n)), .int (sI (cftS tt S n)), .int (sC (cftS tt S n)), .int (sA (cftS tt S n)), .int (sR (cftS tt S n)), .int (nI (sK (cftS tt S n)))])), (hs, .inl (E 1, 4, .inr (.inr (.inl (sF (cftS tt S n)))))), (ht, .inl (E 0, 4, .inl (sT (cftS tt S n)))), (hq, .inl (E 0, 18, .inl (sW (cftS tt S n)))), (pl, .inr (1, [.ref fa, .int (nI (cfN tt (6 + 7 * n))), .int (nI (cwN tt (6 + 7 * n))), u3, u4, u5, u6, u7, u8, u9])), (fa, .inl (E 0, 18, .inl (flN tt fl n))), (hi, .inr (0, [x0, .int 0, x2])), (sv, .inl (E 3, 2, .inl (cpI (fun _ => 0) sb i)))] H locs → lv_has ls 2 [(0, .ref ob), (1, .int (nI i))] → W p l e R s m args below meth c H locs 0 0 Q (F0 m 46 ls []) := by
    intro k9
    induction k9 with
    | zero =>
      intro i h9   H locs ls hw hl
      have h9 : i = 2 := h9
      subst h9
      refine lv_iload_n hx hb dX5_craft_46 rfl (lv_at hl 1 rfl) ?_
      refine lv_iconst (v := 2) hx hb dX5_craft_47 (by decide) ?_
      refine lv_icmp_ge (tgt := 64) hx hb dX5_craft_48 (by decide) (fun c_48 => ?_) (fun c_48 => absurd (by first | exact Int32.le_refl _ | decide) c_48)
      refine lv_aload_n hx hb dX5_craft_64 rfl (lv_at hl 0 rfl) ?_
      refine g_get (TT := TX5) hc hw inX5_craft_X5 0 1 3 rfl rfl (by decide) rfl rfl dX5_craft_65 ?_
      refine g_getN (TT := TX1) hc hw inX5_craft_X1 7 2 8 rfl rfl (by decide) rfl rfl dX5_craft_68 ?_
      exact g_iret hQ hc hw hr rfl rfl dX5_craft_71
    | succ k9 ih =>
      intro i h9   H locs ls hw hl
      have h9b : i < 2 := by omega
      refine lv_iload_n hx hb dX5_craft_46 rfl (lv_at hl 1 rfl) ?_
      refine lv_iconst (v := 2) hx hb dX5_craft_47 (by decide) ?_
      refine lv_icmp_ge (tgt := 64) hx hb dX5_craft_48 (by decide) (fun c_48 => absurd c_48 (nI_ge h9b (by decide))) (fun c_48 => ?_)
      refine lv_aload_n hx hb dX5_craft_51 rfl (lv_at hl 0 rfl) ?_
      refine g_get (TT := TX5) hc hw inX5_craft_X5 0 6 5 rfl rfl (by decide) rfl rfl dX5_craft_52 ?_
      refine lv_iload_n hx hb dX5_craft_55 rfl (lv_at hl 1 rfl) ?_
      refine lv_iconst (v := 0) hx hb dX5_craft_56 (by decide) ?_
      refine g_zst (x' := 0) hc hw 10 i rfl rfl (by omega) (by decide) rfl dX5_craft_57 (fun H locs hw => ?_)
      have hw : g_W D A s [(ob, .inr (5, [.ref sc, .ref pl, .ref h, z3, .ref hi, z5, .ref sv, z7, z8, z9, z10])), (sc, .inr (2, [.ref tx, .int (nI len)])), (tx, .inl (E 2, 120, .inl (txF tt))), (h, .inr (4, [.ref hs, .ref ht, .ref hq, .int (nI (sD (cftS tt S n))), .int (sM (cftS tt S n)), .float (sP (cftS tt S n)), .int (sI (cftS tt S n)), .int (sC (cftS tt S n)), .int (sA (cftS tt S n)), .int (sR (cftS tt S n)), .int (nI (sK (cftS tt S n)))])), (hs, .inl (E 1, 4, .inr (.inr (.inl (sF (cftS tt S n)))))), (ht, .inl (E 0, 4, .inl (sT (cftS tt S n)))), (hq, .inl (E 0, 18, .inl (sW (cftS tt S n)))), (pl, .inr (1, [.ref fa, .int (nI (cfN tt (6 + 7 * n))), .int (nI (cwN tt (6 + 7 * n))), u3, u4, u5, u6, u7, u8, u9])), (fa, .inl (E 0, 18, .inl (flN tt fl n))), (hi, .inr (0, [x0, .int 0, x2])), (sv, .inl (E 3, 2, .inl (upd (cpI (fun _ => 0) sb i) i 0)))] H locs := hw
      refine lv_iinc (v := nI (i + 1)) (lv' := [(1, .int (nI (i + 1))), (0, .ref ob)]) hx hb dX5_craft_58 hl (k := 1) rfl (n_inc1 rfl) (by decide) rfl (fun ls hl => ?_)
      refine lv_goto (tgt := 46) hx hb dX5_craft_61 (by decide) ?_
      have hw : g_W D A s [(ob, .inr (5, [.ref sc, .ref pl, .ref h, z3, .ref hi, z5, .ref sv, z7, z8, z9, z10])), (sc, .inr (2, [.ref tx, .int (nI len)])), (tx, .inl (E 2, 120, .inl (txF tt))), (h, .inr (4, [.ref hs, .ref ht, .ref hq, .int (nI (sD (cftS tt S n))), .int (sM (cftS tt S n)), .float (sP (cftS tt S n)), .int (sI (cftS tt S n)), .int (sC (cftS tt S n)), .int (sA (cftS tt S n)), .int (sR (cftS tt S n)), .int (nI (sK (cftS tt S n)))])), (hs, .inl (E 1, 4, .inr (.inr (.inl (sF (cftS tt S n)))))), (ht, .inl (E 0, 4, .inl (sT (cftS tt S n)))), (hq, .inl (E 0, 18, .inl (sW (cftS tt S n)))), (pl, .inr (1, [.ref fa, .int (nI (cfN tt (6 + 7 * n))), .int (nI (cwN tt (6 + 7 * n))), u3, u4, u5, u6, u7, u8, u9])), (fa, .inl (E 0, 18, .inl (flN tt fl n))), (hi, .inr (0, [x0, .int 0, x2])), (sv, .inl (E 3, 2, .inl (cpI (fun _ => 0) sb (i + 1))))] H locs := by
        have e10 : (upd (cpI (fun _ => 0) sb i) i 0) = (cpI (fun _ => 0) sb (i + 1)) := by exact cpI_s sb rfl
        rw [e10] at hw
        exact hw
      exact ih (i + 1) (by omega)   _ _ _ hw (lv_sub hl [1, 0] rfl)
  have hw : g_W D A s [(ob, .inr (5, [.ref sc, .ref pl, .ref h, z3, .ref hi, z5, .ref sv, z7, z8, z9, z10])), (sc, .inr (2, [.ref tx, .int (nI len)])), (tx, .inl (E 2, 120, .inl (txF tt))), (h, .inr (4, [.ref hs, .ref ht, .ref hq, .int (nI (sD (cftS tt S n))), .int (sM (cftS tt S n)), .float (sP (cftS tt S n)), .int (sI (cftS tt S n)), .int (sC (cftS tt S n)), .int (sA (cftS tt S n)), .int (sR (cftS tt S n)), .int (nI (sK (cftS tt S n)))])), (hs, .inl (E 1, 4, .inr (.inr (.inl (sF (cftS tt S n)))))), (ht, .inl (E 0, 4, .inl (sT (cftS tt S n)))), (hq, .inl (E 0, 18, .inl (sW (cftS tt S n)))), (pl, .inr (1, [.ref fa, .int (nI (cfN tt (6 + 7 * n))), .int (nI (cwN tt (6 + 7 * n))), u3, u4, u5, u6, u7, u8, u9])), (fa, .inl (E 0, 18, .inl (flN tt fl n))), (hi, .inr (0, [x0, .int 0, x2])), (sv, .inl (E 3, 2, .inl (cpI (fun _ => 0) sb 0)))] H locs := by
    have e10 : sb = (cpI (fun _ => 0) sb 0) := by exact cpI_0 _ sb
    rw [e10] at hw
    exact hw
  exact J46 2 0 (by omega)   _ _ _ hw (lv_sub hl [1, 0] rfl)
end P19h
