section P19b
theorem dX5_plan_0 : decode cX5_plan 0 = .ok (.iload_n 1, 1) := by decide +kernel
theorem dX5_plan_1 : decode cX5_plan 1 = .ok (.iconst 0, 1) := by decide +kernel
theorem dX5_plan_2 : decode cX5_plan 2 = .ok (.iconst 3, 1) := by decide +kernel
theorem dX5_plan_3 : decode cX5_plan 3 = .ok (.invokestatic 59, 3) := by decide +kernel
theorem dX5_plan_6 : decode cX5_plan 6 = .ok (.ifCond .eq 6, 3) := by decide +kernel
theorem dX5_plan_9 : decode cX5_plan 9 = .ok (.bipush (-2), 2) := by decide +kernel
theorem dX5_plan_11 : decode cX5_plan 11 = .ok (.ireturn, 1) := by decide +kernel
set_option maxRecDepth 20000 in
theorem ggX5_plan_X5_outside : GoodIn wsX5_plan wsX5_outside := goodIn_r _ [6] rfl (by decide +kernel)
set_option maxRecDepth 20000 in
theorem gX5_plan_X5_outside : GoodIn wsX5_plan (va_wsS RX5 59 yX5_outside wsX5_outside) := goodIn_app (goodIn_of _ (by decide +kernel)) ggX5_plan_X5_outside
set_option maxRecDepth 100000 in
set_option maxHeartbeats 4000000 in
theorem m_X5_plan_out {l : Launch} {D : va_G} {E : Nat → ClassId} {T : Nat → Nat} (ob : Nat) (z0 : Value) (z1 : Value) (z2 : Value) (z3 : Value) (z4 : Value) (z5 : Value) (z6 : Value) (z7 : Value) (z8 : Value) (z9 : Value) (z10 : Value) (v : Int32) (ho : outB v 0 3 = true) : g_M l D E T yX5_plan wsX5_plan 1 22 [.ref ob, .int v] [(ob, .inr (5, [z0, z1, z2, z3, z4, z5, z6, z7, z8, z9, z10]))] [(ob, .inr (5, [z0, z1, z2, z3, z4, z5, z6, z7, z8, z9, z10]))] (some (.int (-2))) := by
  refine g_M.of (cc := cX5_plan) (nL := 2) (ret := (some .int)) (own := RX5) (lv := [(0, .ref ob), (1, .int v)]) (by decide) rfl rfl (Nat.le_of_ble_eq_true rfl) rfl ?_
  intro p e R s m args below meth c A Q H locs ls hR hQ hc hr hw hl
  have hx := hc.1
  have hb := hc.2.1
  have hts := hc.2.2.2.1
  have hown := hc.2.2.2.2.1
  refine lv_iload_n hx hb dX5_plan_0 rfl (lv_at hl 1 rfl) ?_
  refine lv_iconst (v := 0) hx hb dX5_plan_1 (by decide) ?_
  refine lv_iconst (v := 3) hx hb dX5_plan_2 (by decide) ?_
  refine g_cS (As := [.int v, .int 0, .int 3]) (n := 3) (rest := []) (wc := []) (w1 := []) (bytes := cX5_outside) (maxL := 3) (ret := (some .boolean)) hc hw hl.1 (m_X5_outside (l := l) (D := D) (E := E) (T := T) v 0 3) gX5_plan_X5_outside rfl (by decide +kernel) (by rw [hR]; exact ⟨Nat.le_of_ble_eq_true rfl, Nat.le_of_ble_eq_true rfl⟩) [] (by decide) rfl [] rfl rfl rfl rfl (Nat.le_of_ble_eq_true rfl) dX5_plan_3 ⟨Nat.zero_le _, Nat.zero_le _⟩ (fun H locs hw => ?_)
  have hw : g_W D A s [(ob, .inr (5, [z0, z1, z2, z3, z4, z5, z6, z7, z8, z9, z10]))] H locs := hw
  refine W.eq (congrArg (fun z => F0 m 6 ls (.int z :: [])) (show (b2i (outB v 0 3) : Int32) = 1 from (congrArg b2i ho))) ?_
  refine lv_if_eq (tgt := 12) hx hb dX5_plan_6 (by decide) (fun c_6 => absurd c_6 (by decide)) (fun c_6 => ?_)
  refine lv_bipush (v := (-2)) hx hb dX5_plan_9 (by decide) ?_
  exact g_iret hQ hc hw hr rfl rfl dX5_plan_11

theorem dX5_plan_12 : decode cX5_plan 12 = .ok (.aload_n 0, 1) := by decide +kernel
theorem dX5_plan_13 : decode cX5_plan 13 = .ok (.getfield 26, 3) := by decide +kernel
theorem dX5_plan_16 : decode cX5_plan 16 = .ok (.getfield 134, 3) := by decide +kernel
theorem dX5_plan_19 : decode cX5_plan 19 = .ok (.iconst 1, 1) := by decide +kernel
theorem dX5_plan_20 : decode cX5_plan 20 = .ok (.if_icmp .ne 6, 3) := by decide +kernel
theorem dX5_plan_23 : decode cX5_plan 23 = .ok (.bipush (-3), 2) := by decide +kernel
theorem dX5_plan_25 : decode cX5_plan 25 = .ok (.ireturn, 1) := by decide +kernel
theorem inX5_plan_X4 : ∀ w ∈ u_ws RX4 TX4 11, w ∈ wsX5_plan := fun w h => List.mem_cons_of_mem _ (List.mem_append_left _ (List.mem_append_right _ h))
theorem inX5_plan_X5 : ∀ w ∈ u_ws RX5 TX5 11, w ∈ wsX5_plan := fun w h => List.mem_cons_of_mem _ (List.mem_append_left _ (List.mem_append_left _ (List.mem_append_right _ h)))
set_option maxRecDepth 100000 in
set_option maxHeartbeats 4000000 in
theorem m_X5_plan_safe {l : Launch} {D : va_G} {E : Nat → ClassId} {T : Nat → Nat} (ob : Nat) (h : Nat) (z0 : Value) (z1 : Value) (z3 : Value) (z4 : Value) (z5 : Value) (z6 : Value) (z7 : Value) (z8 : Value) (z9 : Value) (z10 : Value) (v0 : Value) (v1 : Value) (v2 : Value) (v3 : Value) (v5 : Value) (v6 : Value) (v7 : Value) (v8 : Value) (v9 : Value) (v10 : Value) (mo : Int32) (k : Nat) (hk : k ≤ 3) (hm : mo = 1) : g_M l D E T yX5_plan wsX5_plan 1 22 [.ref ob, .int (nI k)] [(ob, .inr (5, [z0, z1, .ref h, z3, z4, z5, z6, z7, z8, z9, z10])), (h, .inr (4, [v0, v1, v2, v3, .int mo, v5, v6, v7, v8, v9, v10]))] [(ob, .inr (5, [z0, z1, .ref h, z3, z4, z5, z6, z7, z8, z9, z10])), (h, .inr (4, [v0, v1, v2, v3, .int mo, v5, v6, v7, v8, v9, v10]))] (some (.int (-3))) := by
  refine g_M.of (cc := cX5_plan) (nL := 2) (ret := (some .int)) (own := RX5) (lv := [(0, .ref ob), (1, .int (nI k))]) (by decide) rfl rfl (Nat.le_of_ble_eq_true rfl) rfl ?_
  intro p e R s m args below meth c A Q H locs ls hR hQ hc hr hw hl
  have hx := hc.1
  have hb := hc.2.1
  have hts := hc.2.2.2.1
  have hown := hc.2.2.2.2.1
  refine lv_iload_n hx hb dX5_plan_0 rfl (lv_at hl 1 rfl) ?_
  refine lv_iconst (v := 0) hx hb dX5_plan_1 (by decide) ?_
  refine lv_iconst (v := 3) hx hb dX5_plan_2 (by decide) ?_
  refine g_cS (As := [.int (nI k), .int 0, .int 3]) (n := 3) (rest := []) (wc := []) (w1 := []) (bytes := cX5_outside) (maxL := 3) (ret := (some .boolean)) hc hw hl.1 (m_X5_outside (l := l) (D := D) (E := E) (T := T) (nI k) 0 3) gX5_plan_X5_outside rfl (by decide +kernel) (by rw [hR]; exact ⟨Nat.le_of_ble_eq_true rfl, Nat.le_of_ble_eq_true rfl⟩) [] (by decide) rfl [] rfl rfl rfl rfl (Nat.le_of_ble_eq_true rfl) dX5_plan_3 ⟨Nat.zero_le _, Nat.zero_le _⟩ (fun H locs hw => ?_)
  have hw : g_W D A s [(ob, .inr (5, [z0, z1, .ref h, z3, z4, z5, z6, z7, z8, z9, z10])), (h, .inr (4, [v0, v1, v2, v3, .int mo, v5, v6, v7, v8, v9, v10]))] H locs := hw
  refine W.eq (congrArg (fun z => F0 m 6 ls (.int z :: [])) (show (b2i (outB (nI k) 0 3) : Int32) = 0 from (congrArg b2i (out_nf (n := k) (a := 0) (b := 3) (by omega) hk (by decide))))) ?_
  refine lv_if_eq (tgt := 12) hx hb dX5_plan_6 (by decide) (fun c_6 => ?_) (fun c_6 => absurd c_6 (by decide))
  refine lv_aload_n hx hb dX5_plan_12 rfl (lv_at hl 0 rfl) ?_
  refine g_get (TT := TX5) hc hw inX5_plan_X5 0 2 1 rfl rfl (by decide) rfl rfl dX5_plan_13 ?_
  refine g_getN (TT := TX4) hc hw inX5_plan_X4 1 4 28 rfl rfl (by decide) rfl rfl dX5_plan_16 ?_
  refine lv_iconst (v := 1) hx hb dX5_plan_19 (by decide) ?_
  refine lv_icmp_ne (tgt := 26) hx hb dX5_plan_20 (by decide) (fun c_20 => absurd hm c_20) (fun c_20 => ?_)
  refine lv_bipush (v := (-3)) hx hb dX5_plan_23 (by decide) ?_
  exact g_iret hQ hc hw hr rfl rfl dX5_plan_25

theorem dX5_plan_26 : decode cX5_plan 26 = .ok (.aload_n 0, 1) := by decide +kernel
theorem dX5_plan_27 : decode cX5_plan 27 = .ok (.getfield 19, 3) := by decide +kernel
theorem dX5_plan_30 : decode cX5_plan 30 = .ok (.aload_n 0, 1) := by decide +kernel
theorem dX5_plan_31 : decode cX5_plan 31 = .ok (.getfield 26, 3) := by decide +kernel
theorem dX5_plan_34 : decode cX5_plan 34 = .ok (.invokevirtual 166, 3) := by decide +kernel
theorem dX5_plan_37 : decode cX5_plan 37 = .ok (.aload_n 0, 1) := by decide +kernel
theorem dX5_plan_38 : decode cX5_plan 38 = .ok (.getfield 19, 3) := by decide +kernel
theorem dX5_plan_41 : decode cX5_plan 41 = .ok (.aload_n 0, 1) := by decide +kernel
theorem dX5_plan_42 : decode cX5_plan 42 = .ok (.getfield 26, 3) := by decide +kernel
theorem dX5_plan_45 : decode cX5_plan 45 = .ok (.invokevirtual 169, 3) := by decide +kernel
theorem dX5_plan_48 : decode cX5_plan 48 = .ok (.iload_n 1, 1) := by decide +kernel
theorem dX5_plan_49 : decode cX5_plan 49 = .ok (.tableswitch 54 0 2 #[27, 35, 43], 27) := by decide +kernel
theorem dX5_plan_76 : decode cX5_plan 76 = .ok (.aload_n 0, 1) := by decide +kernel
theorem dX5_plan_77 : decode cX5_plan 77 = .ok (.getfield 19, 3) := by decide +kernel
theorem dX5_plan_80 : decode cX5_plan 80 = .ok (.getfield 172, 3) := by decide +kernel
theorem dX5_plan_83 : decode cX5_plan 83 = .ok (.ireturn, 1) := by decide +kernel
theorem dX5_plan_84 : decode cX5_plan 84 = .ok (.aload_n 0, 1) := by decide +kernel
theorem dX5_plan_85 : decode cX5_plan 85 = .ok (.getfield 19, 3) := by decide +kernel
theorem dX5_plan_88 : decode cX5_plan 88 = .ok (.getfield 175, 3) := by decide +kernel
theorem dX5_plan_91 : decode cX5_plan 91 = .ok (.ireturn, 1) := by decide +kernel
theorem dX5_plan_92 : decode cX5_plan 92 = .ok (.aload_n 0, 1) := by decide +kernel
theorem dX5_plan_93 : decode cX5_plan 93 = .ok (.getfield 19, 3) := by decide +kernel
theorem dX5_plan_96 : decode cX5_plan 96 = .ok (.getfield 178, 3) := by decide +kernel
theorem dX5_plan_99 : decode cX5_plan 99 = .ok (.invokestatic 96, 3) := by decide +kernel
theorem dX5_plan_102 : decode cX5_plan 102 = .ok (.ireturn, 1) := by decide +kernel
theorem dX5_plan_103 : decode cX5_plan 103 = .ok (.aload_n 0, 1) := by decide +kernel
theorem dX5_plan_104 : decode cX5_plan 104 = .ok (.getfield 19, 3) := by decide +kernel
theorem dX5_plan_107 : decode cX5_plan 107 = .ok (.aload_n 0, 1) := by decide +kernel
theorem dX5_plan_108 : decode cX5_plan 108 = .ok (.getfield 26, 3) := by decide +kernel
theorem dX5_plan_111 : decode cX5_plan 111 = .ok (.invokevirtual 181, 3) := by decide +kernel
theorem dX5_plan_114 : decode cX5_plan 114 = .ok (.ifCond .eq 7, 3) := by decide +kernel
theorem dX5_plan_117 : decode cX5_plan 117 = .ok (.iconst 1, 1) := by decide +kernel
theorem dX5_plan_118 : decode cX5_plan 118 = .ok (.goto 4, 3) := by decide +kernel
theorem dX5_plan_121 : decode cX5_plan 121 = .ok (.iconst 0, 1) := by decide +kernel
theorem dX5_plan_122 : decode cX5_plan 122 = .ok (.ireturn, 1) := by decide +kernel
set_option maxRecDepth 20000 in
theorem ggX5_plan_X1_bend : GoodIn wsX5_plan wsX1_bend := goodIn_r _ [10, 11, 12, 13, 14, 15, 16, 17, 18, 19, 20, 21, 22, 23, 24, 25, 26, 82, 83, 84, 85, 86, 87, 88, 89, 90, 91, 71, 72, 73, 74, 75, 76, 77, 78, 79, 80, 81] rfl (by decide +kernel)
set_option maxRecDepth 20000 in
theorem ggX5_plan_X1_steer : GoodIn wsX5_plan wsX1_steer := goodIn_r _ [29, 30, 31, 32, 33, 34, 35, 8, 36, 37, 38, 39, 11, 40, 41, 42, 43, 44, 45, 46, 47, 48, 24, 13, 25, 26, 16, 49, 5, 50, 71, 72, 73, 74, 75, 76, 77, 78, 79, 80, 81, 82, 83, 84, 85, 86, 87, 88, 89, 90, 91] rfl (by decide +kernel)
set_option maxRecDepth 20000 in
theorem ggX5_plan_X5_bitsOf : GoodIn wsX5_plan wsX5_bitsOf := goodIn_r _ [53, 54, 55, 56, 49, 5, 50] rfl (by decide +kernel)
set_option maxRecDepth 20000 in
theorem gX5_plan_X5_bitsOf : GoodIn wsX5_plan (va_wsS RX5 96 yX5_bitsOf wsX5_bitsOf) := goodIn_app (goodIn_of _ (by decide +kernel)) ggX5_plan_X5_bitsOf
set_option maxRecDepth 20000 in
theorem ggX5_plan_X1_misses : GoodIn wsX5_plan wsX1_misses := goodIn_r _ [59, 31, 82, 83, 84, 85, 86, 87, 88, 89, 90, 91, 71, 72, 73, 74, 75, 76, 77, 78, 79, 80, 81] rfl (by decide +kernel)
theorem inX5_plan_X1 : ∀ w ∈ u_ws RX1 TX1 10, w ∈ wsX5_plan := fun w h => List.mem_cons_of_mem _ (List.mem_append_right _ h)
set_option maxRecDepth 100000 in
set_option maxHeartbeats 4000000 in
theorem m_X5_plan {l : Launch} {D : va_G} {E : Nat → ClassId} {T : Nat → Nat} (pl : Nat) (fa : Nat) (nf : Nat) (nw : Nat) (xa : Nat) (ba : Nat) (pa : Nat) (aa : Nat) (fl : Nat → Int32) (x : Nat → Int32) (J : PJ) (h : Nat) (hs : Nat) (ht : Nat) (hq : Nat) (S : TS) (B : Nat) (ob : Nat) (k : Nat) (z0 : Value) (z3 : Value) (z4 : Value) (z5 : Value) (z6 : Value) (z7 : Value) (z8 : Value) (z9 : Value) (z10 : Value) (hok : OkS B S) (hB : B + 1 < 2 ^ 31) (hnw : nw ≤ 6) (hk : k ≤ 3) (hm : ¬ sM S = 1) : g_M l D E T yX5_plan wsX5_plan 3 73 [.ref ob, .int (nI k)] [(ob, .inr (5, [z0, .ref pl, .ref h, z3, z4, z5, z6, z7, z8, z9, z10])), (pl, .inr (1, [.ref fa, .int (nI nf), .int (nI nw), .ref xa, .ref ba, .ref pa, .ref aa, .int (jS J), .int (jN J), .float (jH J)])), (fa, .inl (E 0, 18, .inl fl)), (xa, .inl (E 0, 3, .inl x)), (ba, .inl (E 0, 12, .inl (jB J))), (pa, .inl (E 1, 4, .inr (.inr (.inl (jE J))))), (aa, .inl (E 1, 4, .inr (.inr (.inl (jA J))))), (h, .inr (4, [.ref hs, .ref ht, .ref hq, .int (nI (sD S)), .int (sM S), .float (sP S), .int (sI S), .int (sC S), .int (sA S), .int (sR S), .int (nI (sK S))])), (hs, .inl (E 1, 4, .inr (.inr (.inl (sF S))))), (ht, .inl (E 0, 4, .inl (sT S))), (hq, .inl (E 0, 18, .inl (sW S)))] [(ob, .inr (5, [z0, .ref pl, .ref h, z3, z4, z5, z6, z7, z8, z9, z10])), (pl, .inr (1, [.ref fa, .int (nI nf), .int (nI nw), .ref xa, .ref ba, .ref pa, .ref aa, .int (jS (jgF nw x S J)), .int (jN (jgF nw x S J)), .float (jH (jgF nw x S J))])), (fa, .inl (E 0, 18, .inl fl)), (xa, .inl (E 0, 3, .inl x)), (ba, .inl (E 0, 12, .inl (jB (jgF nw x S J)))), (pa, .inl (E 1, 4, .inr (.inr (.inl (jE (jgF nw x S J)))))), (aa, .inl (E 1, 4, .inr (.inr (.inl (jA (jgF nw x S J)))))), (h, .inr (4, [.ref hs, .ref ht, .ref hq, .int (nI (sD S)), .int (sM S), .float (sP S), .int (sI S), .int (sC S), .int (sA S), .int (sR S), .int (nI (sK S))])), (hs, .inl (E 1, 4, .inr (.inr (.inl (sF S))))), (ht, .inl (E 0, 4, .inl (sT S))), (hq, .inl (E 0, 18, .inl (sW S)))] (some (.int (plF nw x S k))) := by
  refine g_M.of (cc := cX5_plan) (nL := 2) (ret := (some .int)) (own := RX5) (lv := [(0, .ref ob), (1, .int (nI k))]) (by decide) rfl rfl (Nat.le_of_ble_eq_true rfl) rfl ?_
  intro p e R s m args below meth c A Q H locs ls hR hQ hc hr hw hl
  have hx := hc.1
  have hb := hc.2.1
  have hts := hc.2.2.2.1
  have hown := hc.2.2.2.2.1
  refine lv_iload_n hx hb dX5_plan_0 rfl (lv_at hl 1 rfl) ?_
  refine lv_iconst (v := 0) hx hb dX5_plan_1 (by decide) ?_
  refine lv_iconst (v := 3) hx hb dX5_plan_2 (by decide) ?_
  refine g_cS (As := [.int (nI k), .int 0, .int 3]) (n := 3) (rest := []) (wc := []) (w1 := []) (bytes := cX5_outside) (maxL := 3) (ret := (some .boolean)) hc hw hl.1 (m_X5_outside (l := l) (D := D) (E := E) (T := T) (nI k) 0 3) gX5_plan_X5_outside rfl (by decide +kernel) (by rw [hR]; exact ⟨Nat.le_of_ble_eq_true rfl, Nat.le_of_ble_eq_true rfl⟩) [] (by decide) rfl [] rfl rfl rfl rfl (Nat.le_of_ble_eq_true rfl) dX5_plan_3 ⟨Nat.zero_le _, Nat.zero_le _⟩ (fun H locs hw => ?_)
  have hw : g_W D A s [(ob, .inr (5, [z0, .ref pl, .ref h, z3, z4, z5, z6, z7, z8, z9, z10])), (pl, .inr (1, [.ref fa, .int (nI nf), .int (nI nw), .ref xa, .ref ba, .ref pa, .ref aa, .int (jS J), .int (jN J), .float (jH J)])), (fa, .inl (E 0, 18, .inl fl)), (xa, .inl (E 0, 3, .inl x)), (ba, .inl (E 0, 12, .inl (jB J))), (pa, .inl (E 1, 4, .inr (.inr (.inl (jE J))))), (aa, .inl (E 1, 4, .inr (.inr (.inl (jA J))))), (h, .inr (4, [.ref hs, .ref ht, .ref hq, .int (nI (sD S)), .int (sM S), .float (sP S), .int (sI S), .int (sC S), .int (sA S), .int (sR S), .int (nI (sK S))])), (hs, .inl (E 1, 4, .inr (.inr (.inl (sF S))))), (ht, .inl (E 0, 4, .inl (sT S))), (hq, .inl (E 0, 18, .inl (sW S)))] H locs := hw
  refine W.eq (congrArg (fun z => F0 m 6 ls (.int z :: [])) (show (b2i (outB (nI k) 0 3) : Int32) = 0 from (congrArg b2i (out_nf (n := k) (a := 0) (b := 3) (by omega) hk (by decide))))) ?_
  refine lv_if_eq (tgt := 12) hx hb dX5_plan_6 (by decide) (fun c_6 => ?_) (fun c_6 => absurd c_6 (by decide))
  refine lv_aload_n hx hb dX5_plan_12 rfl (lv_at hl 0 rfl) ?_
  refine g_get (TT := TX5) hc hw inX5_plan_X5 0 2 1 rfl rfl (by decide) rfl rfl dX5_plan_13 ?_
  refine g_getN (TT := TX4) hc hw inX5_plan_X4 7 4 28 rfl rfl (by decide) rfl rfl dX5_plan_16 ?_
  refine lv_iconst (v := 1) hx hb dX5_plan_19 (by decide) ?_
  refine lv_icmp_ne (tgt := 26) hx hb dX5_plan_20 (by decide) (fun c_20 => ?_) (fun c_20 => absurd c_20 hm)
  refine lv_aload_n hx hb dX5_plan_26 rfl (lv_at hl 0 rfl) ?_
  refine g_get (TT := TX5) hc hw inX5_plan_X5 0 1 2 rfl rfl (by decide) rfl rfl dX5_plan_27 ?_
  refine lv_aload_n hx hb dX5_plan_30 rfl (lv_at hl 0 rfl) ?_
  refine g_get (TT := TX5) hc hw inX5_plan_X5 0 2 1 rfl rfl (by decide) rfl rfl dX5_plan_31 ?_
  refine g_cVN (As := [.ref h]) (n := 1) (rest := []) (wc := [(pl, .inr (1, [.ref fa, .int (nI nf), .int (nI nw), .ref xa, .ref ba, .ref pa, .ref aa, .int (jS J), .int (jN J), .float (jH J)])), (h, .inr (4, [.ref hs, .ref ht, .ref hq, .int (nI (sD S)), .int (sM S), .float (sP S), .int (sI S), .int (sC S), .int (sA S), .int (sR S), .int (nI (sK S))])), (ba, .inl (E 0, 12, .inl (jB J)))]) (w1 := [(pl, .inr (1, [.ref fa, .int (nI nf), .int (nI nw), .ref xa, .ref ba, .ref pa, .ref aa, .int (jS J), .int (jN J), .float (jH J)])), (h, .inr (4, [.ref hs, .ref ht, .ref hq, .int (nI (sD S)), .int (sM S), .float (sP S), .int (sI S), .int (sC S), .int (sA S), .int (sR S), .int (nI (sK S))])), (ba, .inl (E 0, 12, .inl (btF (sD S))))]) (bytes := cX1_bend) (maxL := 6) (ret := none) hc hw hl.1 (m_X1_bend (l := l) (D := D) (E := E) (T := T) pl h (.ref fa) (.int (nI nf)) (.int (nI nw)) (.ref xa) (.ref pa) (.ref aa) (.int (jS J)) (.int (jN J)) (.float (jH J)) (.ref hs) (.ref ht) (.ref hq) (.int (sM S)) (.float (sP S)) (.int (sI S)) (.int (sC S)) (.int (sA S)) (.int (sR S)) (.int (nI (sK S))) ba (sD S) (jB J) hok.d) ggX5_plan_X1_bend rfl 69 rfl 8 7 9 rfl rfl rfl (by decide +kernel) (by rw [hR]; exact ⟨Nat.le_of_ble_eq_true rfl, Nat.le_of_ble_eq_true rfl⟩) [1, 7, 4] 1 1 rfl rfl (by decide) rfl [pl, h, ba] rfl rfl rfl rfl (Nat.le_of_ble_eq_true rfl) dX5_plan_34 ⟨Nat.zero_le _, Nat.zero_le _⟩ (fun H locs hw => ?_)
  have hw : g_W D A s [(ob, .inr (5, [z0, .ref pl, .ref h, z3, z4, z5, z6, z7, z8, z9, z10])), (pl, .inr (1, [.ref fa, .int (nI nf), .int (nI nw), .ref xa, .ref ba, .ref pa, .ref aa, .int (jS J), .int (jN J), .float (jH J)])), (fa, .inl (E 0, 18, .inl fl)), (xa, .inl (E 0, 3, .inl x)), (ba, .inl (E 0, 12, .inl (btF (sD S)))), (pa, .inl (E 1, 4, .inr (.inr (.inl (jE J))))), (aa, .inl (E 1, 4, .inr (.inr (.inl (jA J))))), (h, .inr (4, [.ref hs, .ref ht, .ref hq, .int (nI (sD S)), .int (sM S), .float (sP S), .int (sI S), .int (sC S), .int (sA S), .int (sR S), .int (nI (sK S))])), (hs, .inl (E 1, 4, .inr (.inr (.inl (sF S))))), (ht, .inl (E 0, 4, .inl (sT S))), (hq, .inl (E 0, 18, .inl (sW S)))] H locs := hw
  refine lv_aload_n hx hb dX5_plan_37 rfl (lv_at hl 0 rfl) ?_
  refine g_get (TT := TX5) hc hw inX5_plan_X5 0 1 2 rfl rfl (by decide) rfl rfl dX5_plan_38 ?_
  refine lv_aload_n hx hb dX5_plan_41 rfl (lv_at hl 0 rfl) ?_
  refine g_get (TT := TX5) hc hw inX5_plan_X5 0 2 1 rfl rfl (by decide) rfl rfl dX5_plan_42 ?_
  refine g_cVN (As := [.ref h]) (n := 1) (rest := []) (wc := [(pl, .inr (1, [.ref fa, .int (nI nf), .int (nI nw), .ref xa, .ref ba, .ref pa, .ref aa, .int (jS J), .int (jN J), .float (jH J)])), (h, .inr (4, [.ref hs, .ref ht, .ref hq, .int (nI (sD S)), .int (sM S), .float (sP S), .int (sI S), .int (sC S), .int (sA S), .int (sR S), .int (nI (sK S))])), (xa, .inl (E 0, 3, .inl x)), (ba, .inl (E 0, 12, .inl (btF (sD S)))), (pa, .inl (E 1, 4, .inr (.inr (.inl (jE J))))), (aa, .inl (E 1, 4, .inr (.inr (.inl (jA J))))), (hs, .inl (E 1, 4, .inr (.inr (.inl (sF S))))), (ht, .inl (E 0, 4, .inl (sT S))), (hq, .inl (E 0, 18, .inl (sW S)))]) (w1 := [(pl, .inr (1, [.ref fa, .int (nI nf), .int (nI nw), .ref xa, .ref ba, .ref pa, .ref aa, .int (stF (sD S) (sF S) (epF (btF (sD S)) (sW S) nw (sK S) x) (FP.i2f ((sT S) 1))), .int (neF (sD S) (FP.i2f ((sT S) 1)) (aiF (sF S) (epF (btF (sD S)) (sW S) nw (sK S) x) (stF (sD S) (sF S) (epF (btF (sD S)) (sW S) nw (sK S) x) (FP.i2f ((sT S) 1)))) 4), .float (heF (sD S) (aiF (sF S) (epF (btF (sD S)) (sW S) nw (sK S) x) (stF (sD S) (sF S) (epF (btF (sD S)) (sW S) nw (sK S) x) (FP.i2f ((sT S) 1)))) 4)])), (h, .inr (4, [.ref hs, .ref ht, .ref hq, .int (nI (sD S)), .int (sM S), .float (sP S), .int (sI S), .int (sC S), .int (sA S), .int (sR S), .int (nI (sK S))])), (xa, .inl (E 0, 3, .inl x)), (ba, .inl (E 0, 12, .inl (btF (sD S)))), (pa, .inl (E 1, 4, .inr (.inr (.inl (epF (btF (sD S)) (sW S) nw (sK S) x))))), (aa, .inl (E 1, 4, .inr (.inr (.inl (amP (sD S) (aiF (sF S) (epF (btF (sD S)) (sW S) nw (sK S) x) (stF (sD S) (sF S) (epF (btF (sD S)) (sW S) nw (sK S) x) (FP.i2f ((sT S) 1)))) (jA J) 4))))), (hs, .inl (E 1, 4, .inr (.inr (.inl (sF S))))), (ht, .inl (E 0, 4, .inl (sT S))), (hq, .inl (E 0, 18, .inl (sW S)))]) (bytes := cX1_steer) (maxL := 6) (ret := none) hc hw hl.1 (m_X1_steer (l := l) (D := D) (E := E) (T := T) pl h (.ref fa) (.int (nI nf)) (.int (jS J)) (.int (jN J)) (.float (jH J)) (.int (sM S)) (.float (sP S)) (.int (sI S)) (.int (sC S)) (.int (sA S)) (.int (sR S)) nw xa ba pa aa hs ht hq (sD S) (sK S) x (btF (sD S)) (jE J) (jA J) (sF S) (sT S) (sW S) hok.d hok.f hnw (by have := hok.k; omega)) ggX5_plan_X1_steer rfl 70 rfl 8 27 28 rfl rfl rfl (by decide +kernel) (by rw [hR]; exact ⟨Nat.le_of_ble_eq_true rfl, Nat.le_of_ble_eq_true rfl⟩) [1, 7, 3, 4, 5, 6, 8, 9, 10] 1 1 rfl rfl (by decide) rfl [pl, h, xa, ba, pa, aa, hs, ht, hq] rfl rfl rfl rfl (Nat.le_of_ble_eq_true rfl) dX5_plan_45 ⟨Nat.zero_le _, Nat.zero_le _⟩ (fun H locs hw => ?_)
  have hw : g_W D A s [(ob, .inr (5, [z0, .ref pl, .ref h, z3, z4, z5, z6, z7, z8, z9, z10])), (pl, .inr (1, [.ref fa, .int (nI nf), .int (nI nw), .ref xa, .ref ba, .ref pa, .ref aa, .int (stF (sD S) (sF S) (epF (btF (sD S)) (sW S) nw (sK S) x) (FP.i2f ((sT S) 1))), .int (neF (sD S) (FP.i2f ((sT S) 1)) (aiF (sF S) (epF (btF (sD S)) (sW S) nw (sK S) x) (stF (sD S) (sF S) (epF (btF (sD S)) (sW S) nw (sK S) x) (FP.i2f ((sT S) 1)))) 4), .float (heF (sD S) (aiF (sF S) (epF (btF (sD S)) (sW S) nw (sK S) x) (stF (sD S) (sF S) (epF (btF (sD S)) (sW S) nw (sK S) x) (FP.i2f ((sT S) 1)))) 4)])), (fa, .inl (E 0, 18, .inl fl)), (xa, .inl (E 0, 3, .inl x)), (ba, .inl (E 0, 12, .inl (btF (sD S)))), (pa, .inl (E 1, 4, .inr (.inr (.inl (epF (btF (sD S)) (sW S) nw (sK S) x))))), (aa, .inl (E 1, 4, .inr (.inr (.inl (amP (sD S) (aiF (sF S) (epF (btF (sD S)) (sW S) nw (sK S) x) (stF (sD S) (sF S) (epF (btF (sD S)) (sW S) nw (sK S) x) (FP.i2f ((sT S) 1)))) (jA J) 4))))), (h, .inr (4, [.ref hs, .ref ht, .ref hq, .int (nI (sD S)), .int (sM S), .float (sP S), .int (sI S), .int (sC S), .int (sA S), .int (sR S), .int (nI (sK S))])), (hs, .inl (E 1, 4, .inr (.inr (.inl (sF S))))), (ht, .inl (E 0, 4, .inl (sT S))), (hq, .inl (E 0, 18, .inl (sW S)))] H locs := hw
  have hw : g_W D A s [(ob, .inr (5, [z0, .ref pl, .ref h, z3, z4, z5, z6, z7, z8, z9, z10])), (pl, .inr (1, [.ref fa, .int (nI nf), .int (nI nw), .ref xa, .ref ba, .ref pa, .ref aa, .int (jS (jgF nw x S J)), .int (jN (jgF nw x S J)), .float (jH (jgF nw x S J))])), (fa, .inl (E 0, 18, .inl fl)), (xa, .inl (E 0, 3, .inl x)), (ba, .inl (E 0, 12, .inl (jB (jgF nw x S J)))), (pa, .inl (E 1, 4, .inr (.inr (.inl (jE (jgF nw x S J)))))), (aa, .inl (E 1, 4, .inr (.inr (.inl (jA (jgF nw x S J)))))), (h, .inr (4, [.ref hs, .ref ht, .ref hq, .int (nI (sD S)), .int (sM S), .float (sP S), .int (sI S), .int (sC S), .int (sA S), .int (sR S), .int (nI (sK S))])), (hs, .inl (E 1, 4, .inr (.inr (.inl (sF S))))), (ht, .inl (E 0, 4, .inl (sT S))), (hq, .inl (E 0, 18, .inl (sW S)))] H locs := hw
  refine lv_iload_n hx hb dX5_plan_48 rfl (lv_at hl 1 rfl) ?_
  by_cases y_0 : (nI k) = 0
  · skip
    refine lv_tableIn (off := 27) (tgt := 76) hx hb dX5_plan_49 (by rw [y_0]; decide) (by rw [y_0]; decide) (by rw [y_0]; rfl) (by decide) ?_
    have m_0 : k = 0 := nf_eqT rfl rfl (by omega) (by decide) y_0
    refine lv_aload_n hx hb dX5_plan_76 rfl (lv_at hl 0 rfl) ?_
    refine g_get (TT := TX5) hc hw inX5_plan_X5 0 1 2 rfl rfl (by decide) rfl rfl dX5_plan_77 ?_
    refine g_getN (TT := TX1) hc hw inX5_plan_X1 1 7 10 rfl rfl (by decide) rfl rfl dX5_plan_80 ?_
    exact g_iret hQ hc hw hr (by exact congrArg (fun z => some (Value.int z)) (by unfold plF; simp only [if_pos m_0]; rfl)) rfl dX5_plan_83
  have m_0 : ¬ k = 0 := nf_eqF rfl rfl (by omega) (by decide) y_0
  by_cases y_1 : (nI k) = 1
  · skip
    refine lv_tableIn (off := 35) (tgt := 84) hx hb dX5_plan_49 (by rw [y_1]; decide) (by rw [y_1]; decide) (by rw [y_1]; rfl) (by decide) ?_
    have m_1 : k = 1 := nf_eqT rfl rfl (by omega) (by decide) y_1
    refine lv_aload_n hx hb dX5_plan_84 rfl (lv_at hl 0 rfl) ?_
    refine g_get (TT := TX5) hc hw inX5_plan_X5 0 1 2 rfl rfl (by decide) rfl rfl dX5_plan_85 ?_
    refine g_getN (TT := TX1) hc hw inX5_plan_X1 1 8 11 rfl rfl (by decide) rfl rfl dX5_plan_88 ?_
    exact g_iret hQ hc hw hr (by exact congrArg (fun z => some (Value.int z)) (by unfold plF; simp only [if_neg m_0, if_pos m_1]; rfl)) rfl dX5_plan_91
  have m_1 : ¬ k = 1 := nf_eqF rfl rfl (by omega) (by decide) y_1
  by_cases y_2 : (nI k) = 2
  · skip
    refine lv_tableIn (off := 43) (tgt := 92) hx hb dX5_plan_49 (by rw [y_2]; decide) (by rw [y_2]; decide) (by rw [y_2]; rfl) (by decide) ?_
    have m_2 : k = 2 := nf_eqT rfl rfl (by omega) (by decide) y_2
    refine lv_aload_n hx hb dX5_plan_92 rfl (lv_at hl 0 rfl) ?_
    refine g_get (TT := TX5) hc hw inX5_plan_X5 0 1 2 rfl rfl (by decide) rfl rfl dX5_plan_93 ?_
    refine g_getN (TT := TX1) hc hw inX5_plan_X1 1 9 12 rfl rfl (by decide) rfl rfl dX5_plan_96 ?_
    refine g_cS (As := [.float (jH (jgF nw x S J))]) (n := 1) (rest := []) (wc := []) (w1 := []) (bytes := cX5_bitsOf) (maxL := 4) (ret := (some .int)) hc hw hl.1 (m_X5_bitsOf (l := l) (D := D) (E := E) (T := T) (jH (jgF nw x S J)) (g_mgW (hS_ok hok nw x).1 (by decide)) ((hS_ok hok nw x).2)) gX5_plan_X5_bitsOf rfl (by decide +kernel) (by rw [hR]; exact ⟨Nat.le_of_ble_eq_true rfl, Nat.le_of_ble_eq_true rfl⟩) [] (by decide) rfl [] rfl rfl rfl rfl (Nat.le_of_ble_eq_true rfl) dX5_plan_99 ⟨Nat.zero_le _, Nat.zero_le _⟩ (fun H locs hw => ?_)
    have hw : g_W D A s [(ob, .inr (5, [z0, .ref pl, .ref h, z3, z4, z5, z6, z7, z8, z9, z10])), (pl, .inr (1, [.ref fa, .int (nI nf), .int (nI nw), .ref xa, .ref ba, .ref pa, .ref aa, .int (jS (jgF nw x S J)), .int (jN (jgF nw x S J)), .float (jH (jgF nw x S J))])), (fa, .inl (E 0, 18, .inl fl)), (xa, .inl (E 0, 3, .inl x)), (ba, .inl (E 0, 12, .inl (jB (jgF nw x S J)))), (pa, .inl (E 1, 4, .inr (.inr (.inl (jE (jgF nw x S J)))))), (aa, .inl (E 1, 4, .inr (.inr (.inl (jA (jgF nw x S J)))))), (h, .inr (4, [.ref hs, .ref ht, .ref hq, .int (nI (sD S)), .int (sM S), .float (sP S), .int (sI S), .int (sC S), .int (sA S), .int (sR S), .int (nI (sK S))])), (hs, .inl (E 1, 4, .inr (.inr (.inl (sF S))))), (ht, .inl (E 0, 4, .inl (sT S))), (hq, .inl (E 0, 18, .inl (sW S)))] H locs := hw
    exact g_iret hQ hc hw hr (by exact congrArg (fun z => some (Value.int z)) (by unfold plF; simp only [if_neg m_0, if_neg m_1, if_pos m_2]; rfl)) rfl dX5_plan_102
  have m_2 : ¬ k = 2 := nf_eqF rfl rfl (by omega) (by decide) y_2
  have z_0 := lv_neT (a := 0) y_0 (by decide)
  have z_1 := lv_neT (a := 1) y_1 (by decide)
  have z_2 := lv_neT (a := 2) y_2 (by decide)
  refine lv_tableOut (tgt := 103) hx hb dX5_plan_49 (by omega) (by decide) ?_
  refine lv_aload_n hx hb dX5_plan_103 rfl (lv_at hl 0 rfl) ?_
  refine g_get (TT := TX5) hc hw inX5_plan_X5 0 1 2 rfl rfl (by decide) rfl rfl dX5_plan_104 ?_
  refine lv_aload_n hx hb dX5_plan_107 rfl (lv_at hl 0 rfl) ?_
  refine g_get (TT := TX5) hc hw inX5_plan_X5 0 2 1 rfl rfl (by decide) rfl rfl dX5_plan_108 ?_
  refine g_cVN (As := [.ref h]) (n := 1) (rest := []) (wc := [(pl, .inr (1, [.ref fa, .int (nI nf), .int (nI nw), .ref xa, .ref ba, .ref pa, .ref aa, .int (jS (jgF nw x S J)), .int (jN (jgF nw x S J)), .float (hS nw x S)])), (h, .inr (4, [.ref hs, .ref ht, .ref hq, .int (nI (sD S)), .int (sM S), .float (sP S), .int (sI S), .int (sC S), .int (sA S), .int (sR S), .int (nI (sK S))])), (ht, .inl (E 0, 4, .inl (sT S)))]) (w1 := [(pl, .inr (1, [.ref fa, .int (nI nf), .int (nI nw), .ref xa, .ref ba, .ref pa, .ref aa, .int (jS (jgF nw x S J)), .int (jN (jgF nw x S J)), .float (hS nw x S)])), (h, .inr (4, [.ref hs, .ref ht, .ref hq, .int (nI (sD S)), .int (sM S), .float (sP S), .int (sI S), .int (sC S), .int (sA S), .int (sR S), .int (nI (sK S))])), (ht, .inl (E 0, 4, .inl (sT S)))]) (bytes := cX1_misses) (maxL := 2) (ret := (some .boolean)) hc hw hl.1 (m_X1_misses (l := l) (D := D) (E := E) (T := T) pl h (.ref fa) (.int (nI nf)) (.int (nI nw)) (.ref xa) (.ref ba) (.ref pa) (.ref aa) (.int (jS (jgF nw x S J))) (.int (jN (jgF nw x S J))) (.ref hs) (.ref hq) (.int (nI (sD S))) (.int (sM S)) (.float (sP S)) (.int (sI S)) (.int (sC S)) (.int (sA S)) (.int (sR S)) (.int (nI (sK S))) ht (hS nw x S) (sT S)) ggX5_plan_X1_misses rfl 71 rfl 8 57 58 rfl rfl rfl (by decide +kernel) (by rw [hR]; exact ⟨Nat.le_of_ble_eq_true rfl, Nat.le_of_ble_eq_true rfl⟩) [1, 7, 9] 1 1 rfl rfl (by decide) rfl [pl, h, ht] rfl rfl rfl rfl (Nat.le_of_ble_eq_true rfl) dX5_plan_111 ⟨Nat.zero_le _, Nat.zero_le _⟩ (fun H locs hw => ?_)
  have hw : g_W D A s [(ob, .inr (5, [z0, .ref pl, .ref h, z3, z4, z5, z6, z7, z8, z9, z10])), (pl, .inr (1, [.ref fa, .int (nI nf), .int (nI nw), .ref xa, .ref ba, .ref pa, .ref aa, .int (jS (jgF nw x S J)), .int (jN (jgF nw x S J)), .float (hS nw x S)])), (fa, .inl (E 0, 18, .inl fl)), (xa, .inl (E 0, 3, .inl x)), (ba, .inl (E 0, 12, .inl (jB (jgF nw x S J)))), (pa, .inl (E 1, 4, .inr (.inr (.inl (jE (jgF nw x S J)))))), (aa, .inl (E 1, 4, .inr (.inr (.inl (jA (jgF nw x S J)))))), (h, .inr (4, [.ref hs, .ref ht, .ref hq, .int (nI (sD S)), .int (sM S), .float (sP S), .int (sI S), .int (sC S), .int (sA S), .int (sR S), .int (nI (sK S))])), (hs, .inl (E 1, 4, .inr (.inr (.inl (sF S))))), (ht, .inl (E 0, 4, .inl (sT S))), (hq, .inl (E 0, 18, .inl (sW S)))] H locs := hw
  refine lv_if_eq (tgt := 121) hx hb dX5_plan_114 (by decide) (fun c_114 => ?_) (fun c_114 => ?_)
  · skip
    have k_114 := b2i_eq c_114
    refine lv_iconst (v := 0) hx hb dX5_plan_121 (by decide) ?_
    exact g_iret hQ hc hw hr (by exact congrArg (fun z => some (Value.int z)) (by unfold plF; simp only [if_neg m_0, if_neg m_1, if_neg m_2]; rw [show bS nw x S = _ from k_114]; rfl)) rfl dX5_plan_122
  · skip
    have k_114 := b2i_ne c_114
    refine lv_iconst (v := 1) hx hb dX5_plan_117 (by decide) ?_
    refine lv_goto (tgt := 122) hx hb dX5_plan_118 (by decide) ?_
    exact g_iret hQ hc hw hr (by exact congrArg (fun z => some (Value.int z)) (by unfold plF; simp only [if_neg m_0, if_neg m_1, if_neg m_2]; rw [show bS nw x S = _ from k_114]; rfl)) rfl dX5_plan_122

theorem dX5_next_0 : decode cX5_next 0 = .ok (.iload_n 1, 1) := by decide +kernel
theorem dX5_next_1 : decode cX5_next 1 = .ok (.invokestatic 88, 3) := by decide +kernel
theorem dX5_next_4 : decode cX5_next 4 = .ok (.ifCond .eq 5, 3) := by decide +kernel
theorem dX5_next_7 : decode cX5_next 7 = .ok (.iconst (-1), 1) := by decide +kernel
theorem dX5_next_8 : decode cX5_next 8 = .ok (.ireturn, 1) := by decide +kernel
set_option maxRecDepth 20000 in
theorem ggX5_next_X5_noWheel : GoodIn wsX5_next wsX5_noWheel := goodIn_r _ [6, 7, 8, 5, 9] rfl (by decide +kernel)
set_option maxRecDepth 20000 in
theorem gX5_next_X5_noWheel : GoodIn wsX5_next (va_wsS RX5 88 yX5_noWheel wsX5_noWheel) := goodIn_app (goodIn_of _ (by decide +kernel)) ggX5_next_X5_noWheel
set_option maxRecDepth 100000 in
set_option maxHeartbeats 4000000 in
theorem m_X5_next_out {l : Launch} {D : va_G} {E : Nat → ClassId} {T : Nat → Nat} (ob : Nat) (z0 : Value) (z1 : Value) (z2 : Value) (z3 : Value) (z4 : Value) (z5 : Value) (z6 : Value) (z7 : Value) (z8 : Value) (z9 : Value) (z10 : Value) (v : Int32) (ho : outB v 0 3 = true) : g_M l D E T yX5_next wsX5_next 2 42 [.ref ob, .int v] [(ob, .inr (5, [z0, z1, z2, z3, z4, z5, z6, z7, z8, z9, z10]))] [(ob, .inr (5, [z0, z1, z2, z3, z4, z5, z6, z7, z8, z9, z10]))] (some (.int (-1))) := by
  refine g_M.of (cc := cX5_next) (nL := 2) (ret := (some .int)) (own := RX5) (lv := [(0, .ref ob), (1, .int v)]) (by decide) rfl rfl (Nat.le_of_ble_eq_true rfl) rfl ?_
  intro p e R s m args below meth c A Q H locs ls hR hQ hc hr hw hl
  have hx := hc.1
  have hb := hc.2.1
  have hts := hc.2.2.2.1
  have hown := hc.2.2.2.2.1
  refine lv_iload_n hx hb dX5_next_0 rfl (lv_at hl 1 rfl) ?_
  refine g_cS (As := [.int v]) (n := 1) (rest := []) (wc := []) (w1 := []) (bytes := cX5_noWheel) (maxL := 1) (ret := (some .boolean)) hc hw hl.1 (m_X5_noWheel (l := l) (D := D) (E := E) (T := T) v) gX5_next_X5_noWheel rfl (by decide +kernel) (by rw [hR]; exact ⟨Nat.le_of_ble_eq_true rfl, Nat.le_of_ble_eq_true rfl⟩) [] (by decide) rfl [] rfl rfl rfl rfl (Nat.le_of_ble_eq_true rfl) dX5_next_1 ⟨Nat.zero_le _, Nat.zero_le _⟩ (fun H locs hw => ?_)
  have hw : g_W D A s [(ob, .inr (5, [z0, z1, z2, z3, z4, z5, z6, z7, z8, z9, z10]))] H locs := hw
  refine W.eq (congrArg (fun z => F0 m 4 ls (.int z :: [])) (show (b2i (outB v 0 3) : Int32) = 1 from (congrArg b2i ho))) ?_
  refine lv_if_eq (tgt := 9) hx hb dX5_next_4 (by decide) (fun c_4 => absurd c_4 (by decide)) (fun c_4 => ?_)
  refine lv_iconst (v := (-1)) hx hb dX5_next_7 (by decide) ?_
  exact g_iret hQ hc hw hr rfl rfl dX5_next_8

theorem dX5_next_9 : decode cX5_next 9 = .ok (.aload_n 0, 1) := by decide +kernel
theorem dX5_next_10 : decode cX5_next 10 = .ok (.getfield 26, 3) := by decide +kernel
theorem dX5_next_13 : decode cX5_next 13 = .ok (.getfield 134, 3) := by decide +kernel
theorem dX5_next_16 : decode cX5_next 16 = .ok (.iconst 1, 1) := by decide +kernel
theorem dX5_next_17 : decode cX5_next 17 = .ok (.if_icmp .ne 6, 3) := by decide +kernel
theorem dX5_next_20 : decode cX5_next 20 = .ok (.bipush (-3), 2) := by decide +kernel
theorem dX5_next_22 : decode cX5_next 22 = .ok (.ireturn, 1) := by decide +kernel
theorem inX5_next_X4 : ∀ w ∈ u_ws RX4 TX4 11, w ∈ wsX5_next := fun w h => List.mem_cons_of_mem _ (List.mem_append_left _ (List.mem_append_right _ h))
theorem inX5_next_X5 : ∀ w ∈ u_ws RX5 TX5 11, w ∈ wsX5_next := fun w h => List.mem_cons_of_mem _ (List.mem_append_left _ (List.mem_append_left _ (List.mem_append_right _ h)))
set_option maxRecDepth 100000 in
set_option maxHeartbeats 4000000 in
theorem m_X5_next_safe {l : Launch} {D : va_G} {E : Nat → ClassId} {T : Nat → Nat} (ob : Nat) (h : Nat) (z0 : Value) (z1 : Value) (z3 : Value) (z4 : Value) (z5 : Value) (z6 : Value) (z7 : Value) (z8 : Value) (z9 : Value) (z10 : Value) (v0 : Value) (v1 : Value) (v2 : Value) (v3 : Value) (v5 : Value) (v6 : Value) (v7 : Value) (v8 : Value) (v9 : Value) (v10 : Value) (mo : Int32) (k : Nat) (hk : k ≤ 3) (hm : mo = 1) : g_M l D E T yX5_next wsX5_next 2 42 [.ref ob, .int (nI k)] [(ob, .inr (5, [z0, z1, .ref h, z3, z4, z5, z6, z7, z8, z9, z10])), (h, .inr (4, [v0, v1, v2, v3, .int mo, v5, v6, v7, v8, v9, v10]))] [(ob, .inr (5, [z0, z1, .ref h, z3, z4, z5, z6, z7, z8, z9, z10])), (h, .inr (4, [v0, v1, v2, v3, .int mo, v5, v6, v7, v8, v9, v10]))] (some (.int (-3))) := by
  refine g_M.of (cc := cX5_next) (nL := 2) (ret := (some .int)) (own := RX5) (lv := [(0, .ref ob), (1, .int (nI k))]) (by decide) rfl rfl (Nat.le_of_ble_eq_true rfl) rfl ?_
  intro p e R s m args below meth c A Q H locs ls hR hQ hc hr hw hl
  have hx := hc.1
  have hb := hc.2.1
  have hts := hc.2.2.2.1
  have hown := hc.2.2.2.2.1
  refine lv_iload_n hx hb dX5_next_0 rfl (lv_at hl 1 rfl) ?_
  refine g_cS (As := [.int (nI k)]) (n := 1) (rest := []) (wc := []) (w1 := []) (bytes := cX5_noWheel) (maxL := 1) (ret := (some .boolean)) hc hw hl.1 (m_X5_noWheel (l := l) (D := D) (E := E) (T := T) (nI k)) gX5_next_X5_noWheel rfl (by decide +kernel) (by rw [hR]; exact ⟨Nat.le_of_ble_eq_true rfl, Nat.le_of_ble_eq_true rfl⟩) [] (by decide) rfl [] rfl rfl rfl rfl (Nat.le_of_ble_eq_true rfl) dX5_next_1 ⟨Nat.zero_le _, Nat.zero_le _⟩ (fun H locs hw => ?_)
  have hw : g_W D A s [(ob, .inr (5, [z0, z1, .ref h, z3, z4, z5, z6, z7, z8, z9, z10])), (h, .inr (4, [v0, v1, v2, v3, .int mo, v5, v6, v7, v8, v9, v10]))] H locs := hw
  refine W.eq (congrArg (fun z => F0 m 4 ls (.int z :: [])) (show (b2i (outB (nI k) 0 3) : Int32) = 0 from (congrArg b2i (out_nf (n := k) (a := 0) (b := 3) (by omega) hk (by decide))))) ?_
  refine lv_if_eq (tgt := 9) hx hb dX5_next_4 (by decide) (fun c_4 => ?_) (fun c_4 => absurd c_4 (by decide))
  refine lv_aload_n hx hb dX5_next_9 rfl (lv_at hl 0 rfl) ?_
  refine g_get (TT := TX5) hc hw inX5_next_X5 0 2 1 rfl rfl (by decide) rfl rfl dX5_next_10 ?_
  refine g_getN (TT := TX4) hc hw inX5_next_X4 1 4 28 rfl rfl (by decide) rfl rfl dX5_next_13 ?_
  refine lv_iconst (v := 1) hx hb dX5_next_16 (by decide) ?_
  refine lv_icmp_ne (tgt := 23) hx hb dX5_next_17 (by decide) (fun c_17 => absurd hm c_17) (fun c_17 => ?_)
  refine lv_bipush (v := (-3)) hx hb dX5_next_20 (by decide) ?_
  exact g_iret hQ hc hw hr rfl rfl dX5_next_22

theorem dX5_next_23 : decode cX5_next 23 = .ok (.aload_n 0, 1) := by decide +kernel
theorem dX5_next_24 : decode cX5_next 24 = .ok (.getfield 19, 3) := by decide +kernel
theorem dX5_next_27 : decode cX5_next 27 = .ok (.aload_n 0, 1) := by decide +kernel
theorem dX5_next_28 : decode cX5_next 28 = .ok (.getfield 26, 3) := by decide +kernel
theorem dX5_next_31 : decode cX5_next 31 = .ok (.invokevirtual 166, 3) := by decide +kernel
theorem dX5_next_34 : decode cX5_next 34 = .ok (.aload_n 0, 1) := by decide +kernel
theorem dX5_next_35 : decode cX5_next 35 = .ok (.getfield 19, 3) := by decide +kernel
theorem dX5_next_38 : decode cX5_next 38 = .ok (.aload_n 0, 1) := by decide +kernel
theorem dX5_next_39 : decode cX5_next 39 = .ok (.getfield 26, 3) := by decide +kernel
theorem dX5_next_42 : decode cX5_next 42 = .ok (.invokevirtual 169, 3) := by decide +kernel
theorem dX5_next_45 : decode cX5_next 45 = .ok (.aload_n 0, 1) := by decide +kernel
theorem dX5_next_46 : decode cX5_next 46 = .ok (.getfield 26, 3) := by decide +kernel
theorem dX5_next_49 : decode cX5_next 49 = .ok (.iload_n 1, 1) := by decide +kernel
theorem dX5_next_50 : decode cX5_next 50 = .ok (.invokevirtual 103, 3) := by decide +kernel
theorem dX5_next_53 : decode cX5_next 53 = .ok (.ifCond .eq 15, 3) := by decide +kernel
theorem dX5_next_56 : decode cX5_next 56 = .ok (.aload_n 0, 1) := by decide +kernel
theorem dX5_next_57 : decode cX5_next 57 = .ok (.getfield 26, 3) := by decide +kernel
theorem dX5_next_60 : decode cX5_next 60 = .ok (.getfield 92, 3) := by decide +kernel
theorem dX5_next_63 : decode cX5_next 63 = .ok (.iload_n 1, 1) := by decide +kernel
theorem dX5_next_64 : decode cX5_next 64 = .ok (.faload, 1) := by decide +kernel
theorem dX5_next_65 : decode cX5_next 65 = .ok (.goto 12, 3) := by decide +kernel
theorem dX5_next_68 : decode cX5_next 68 = .ok (.aload_n 0, 1) := by decide +kernel
theorem dX5_next_69 : decode cX5_next 69 = .ok (.getfield 19, 3) := by decide +kernel
theorem dX5_next_72 : decode cX5_next 72 = .ok (.getfield 184, 3) := by decide +kernel
theorem dX5_next_75 : decode cX5_next 75 = .ok (.iload_n 1, 1) := by decide +kernel
theorem dX5_next_76 : decode cX5_next 76 = .ok (.faload, 1) := by decide +kernel
theorem dX5_next_77 : decode cX5_next 77 = .ok (.invokestatic 96, 3) := by decide +kernel
theorem dX5_next_80 : decode cX5_next 80 = .ok (.ireturn, 1) := by decide +kernel
set_option maxRecDepth 20000 in
theorem ggX5_next_X1_bend : GoodIn wsX5_next wsX1_bend := goodIn_r _ [13, 14, 15, 16, 17, 18, 19, 20, 21, 22, 23, 24, 25, 26, 27, 28, 29, 82, 83, 84, 85, 86, 87, 88, 89, 90, 91, 71, 72, 73, 74, 75, 76, 77, 78, 79, 80, 81] rfl (by decide +kernel)
set_option maxRecDepth 20000 in
theorem ggX5_next_X1_steer : GoodIn wsX5_next wsX1_steer := goodIn_r _ [32, 33, 34, 35, 36, 37, 38, 11, 39, 40, 41, 42, 14, 43, 44, 45, 46, 47, 48, 49, 50, 51, 27, 16, 28, 29, 19, 52, 5, 53, 71, 72, 73, 74, 75, 76, 77, 78, 79, 80, 81, 82, 83, 84, 85, 86, 87, 88, 89, 90, 91] rfl (by decide +kernel)
set_option maxRecDepth 20000 in
theorem ggX5_next_X4_isDead : GoodIn wsX5_next wsX4_isDead := goodIn_r _ [29, 19, 71, 72, 73, 74, 75, 76, 77, 78, 79, 80, 81] rfl (by decide +kernel)
set_option maxRecDepth 20000 in
theorem ggX5_next_X5_bitsOf : GoodIn wsX5_next wsX5_bitsOf := goodIn_r _ [56, 57, 58, 59, 52, 5, 53] rfl (by decide +kernel)
set_option maxRecDepth 20000 in
theorem gX5_next_X5_bitsOf : GoodIn wsX5_next (va_wsS RX5 96 yX5_bitsOf wsX5_bitsOf) := goodIn_app (goodIn_of _ (by decide +kernel)) ggX5_next_X5_bitsOf
theorem inX5_next_X1 : ∀ w ∈ u_ws RX1 TX1 10, w ∈ wsX5_next := fun w h => List.mem_cons_of_mem _ (List.mem_append_right _ h)
set_option maxRecDepth 100000 in
set_option maxHeartbeats 4000000 in
theorem m_X5_next {l : Launch} {D : va_G} {E : Nat → ClassId} {T : Nat → Nat} (pl : Nat) (fa : Nat) (nf : Nat) (nw : Nat) (xa : Nat) (ba : Nat) (pa : Nat) (aa : Nat) (fl : Nat → Int32) (x : Nat → Int32) (J : PJ) (h : Nat) (hs : Nat) (ht : Nat) (hq : Nat) (S : TS) (B : Nat) (ob : Nat) (k : Nat) (z0 : Value) (z3 : Value) (z4 : Value) (z5 : Value) (z6 : Value) (z7 : Value) (z8 : Value) (z9 : Value) (z10 : Value) (hok : OkS B S) (hB : B + 1 < 2 ^ 31) (hnw : nw ≤ 6) (hk : k ≤ 3) (hm : ¬ sM S = 1) : g_M l D E T yX5_next wsX5_next 3 73 [.ref ob, .int (nI k)] [(ob, .inr (5, [z0, .ref pl, .ref h, z3, z4, z5, z6, z7, z8, z9, z10])), (pl, .inr (1, [.ref fa, .int (nI nf), .int (nI nw), .ref xa, .ref ba, .ref pa, .ref aa, .int (jS J), .int (jN J), .float (jH J)])), (fa, .inl (E 0, 18, .inl fl)), (xa, .inl (E 0, 3, .inl x)), (ba, .inl (E 0, 12, .inl (jB J))), (pa, .inl (E 1, 4, .inr (.inr (.inl (jE J))))), (aa, .inl (E 1, 4, .inr (.inr (.inl (jA J))))), (h, .inr (4, [.ref hs, .ref ht, .ref hq, .int (nI (sD S)), .int (sM S), .float (sP S), .int (sI S), .int (sC S), .int (sA S), .int (sR S), .int (nI (sK S))])), (hs, .inl (E 1, 4, .inr (.inr (.inl (sF S))))), (ht, .inl (E 0, 4, .inl (sT S))), (hq, .inl (E 0, 18, .inl (sW S)))] [(ob, .inr (5, [z0, .ref pl, .ref h, z3, z4, z5, z6, z7, z8, z9, z10])), (pl, .inr (1, [.ref fa, .int (nI nf), .int (nI nw), .ref xa, .ref ba, .ref pa, .ref aa, .int (jS (jgF nw x S J)), .int (jN (jgF nw x S J)), .float (jH (jgF nw x S J))])), (fa, .inl (E 0, 18, .inl fl)), (xa, .inl (E 0, 3, .inl x)), (ba, .inl (E 0, 12, .inl (jB (jgF nw x S J)))), (pa, .inl (E 1, 4, .inr (.inr (.inl (jE (jgF nw x S J)))))), (aa, .inl (E 1, 4, .inr (.inr (.inl (jA (jgF nw x S J)))))), (h, .inr (4, [.ref hs, .ref ht, .ref hq, .int (nI (sD S)), .int (sM S), .float (sP S), .int (sI S), .int (sC S), .int (sA S), .int (sR S), .int (nI (sK S))])), (hs, .inl (E 1, 4, .inr (.inr (.inl (sF S))))), (ht, .inl (E 0, 4, .inl (sT S))), (hq, .inl (E 0, 18, .inl (sW S)))] (some (.int (bitI (neA nw x S k)))) := by
  refine g_M.of (cc := cX5_next) (nL := 2) (ret := (some .int)) (own := RX5) (lv := [(0, .ref ob), (1, .int (nI k))]) (by decide) rfl rfl (Nat.le_of_ble_eq_true rfl) rfl ?_
  intro p e R s m args below meth c A Q H locs ls hR hQ hc hr hw hl
  have hx := hc.1
  have hb := hc.2.1
  have hts := hc.2.2.2.1
  have hown := hc.2.2.2.2.1
  refine lv_iload_n hx hb dX5_next_0 rfl (lv_at hl 1 rfl) ?_
  refine g_cS (As := [.int (nI k)]) (n := 1) (rest := []) (wc := []) (w1 := []) (bytes := cX5_noWheel) (maxL := 1) (ret := (some .boolean)) hc hw hl.1 (m_X5_noWheel (l := l) (D := D) (E := E) (T := T) (nI k)) gX5_next_X5_noWheel rfl (by decide +kernel) (by rw [hR]; exact ⟨Nat.le_of_ble_eq_true rfl, Nat.le_of_ble_eq_true rfl⟩) [] (by decide) rfl [] rfl rfl rfl rfl (Nat.le_of_ble_eq_true rfl) dX5_next_1 ⟨Nat.zero_le _, Nat.zero_le _⟩ (fun H locs hw => ?_)
  have hw : g_W D A s [(ob, .inr (5, [z0, .ref pl, .ref h, z3, z4, z5, z6, z7, z8, z9, z10])), (pl, .inr (1, [.ref fa, .int (nI nf), .int (nI nw), .ref xa, .ref ba, .ref pa, .ref aa, .int (jS J), .int (jN J), .float (jH J)])), (fa, .inl (E 0, 18, .inl fl)), (xa, .inl (E 0, 3, .inl x)), (ba, .inl (E 0, 12, .inl (jB J))), (pa, .inl (E 1, 4, .inr (.inr (.inl (jE J))))), (aa, .inl (E 1, 4, .inr (.inr (.inl (jA J))))), (h, .inr (4, [.ref hs, .ref ht, .ref hq, .int (nI (sD S)), .int (sM S), .float (sP S), .int (sI S), .int (sC S), .int (sA S), .int (sR S), .int (nI (sK S))])), (hs, .inl (E 1, 4, .inr (.inr (.inl (sF S))))), (ht, .inl (E 0, 4, .inl (sT S))), (hq, .inl (E 0, 18, .inl (sW S)))] H locs := hw
  refine W.eq (congrArg (fun z => F0 m 4 ls (.int z :: [])) (show (b2i (outB (nI k) 0 3) : Int32) = 0 from (congrArg b2i (out_nf (n := k) (a := 0) (b := 3) (by omega) hk (by decide))))) ?_
  refine lv_if_eq (tgt := 9) hx hb dX5_next_4 (by decide) (fun c_4 => ?_) (fun c_4 => absurd c_4 (by decide))
  refine lv_aload_n hx hb dX5_next_9 rfl (lv_at hl 0 rfl) ?_
  refine g_get (TT := TX5) hc hw inX5_next_X5 0 2 1 rfl rfl (by decide) rfl rfl dX5_next_10 ?_
  refine g_getN (TT := TX4) hc hw inX5_next_X4 7 4 28 rfl rfl (by decide) rfl rfl dX5_next_13 ?_
  refine lv_iconst (v := 1) hx hb dX5_next_16 (by decide) ?_
  refine lv_icmp_ne (tgt := 23) hx hb dX5_next_17 (by decide) (fun c_17 => ?_) (fun c_17 => absurd c_17 hm)
  refine lv_aload_n hx hb dX5_next_23 rfl (lv_at hl 0 rfl) ?_
  refine g_get (TT := TX5) hc hw inX5_next_X5 0 1 2 rfl rfl (by decide) rfl rfl dX5_next_24 ?_
  refine lv_aload_n hx hb dX5_next_27 rfl (lv_at hl 0 rfl) ?_
  refine g_get (TT := TX5) hc hw inX5_next_X5 0 2 1 rfl rfl (by decide) rfl rfl dX5_next_28 ?_
  refine g_cVN (As := [.ref h]) (n := 1) (rest := []) (wc := [(pl, .inr (1, [.ref fa, .int (nI nf), .int (nI nw), .ref xa, .ref ba, .ref pa, .ref aa, .int (jS J), .int (jN J), .float (jH J)])), (h, .inr (4, [.ref hs, .ref ht, .ref hq, .int (nI (sD S)), .int (sM S), .float (sP S), .int (sI S), .int (sC S), .int (sA S), .int (sR S), .int (nI (sK S))])), (ba, .inl (E 0, 12, .inl (jB J)))]) (w1 := [(pl, .inr (1, [.ref fa, .int (nI nf), .int (nI nw), .ref xa, .ref ba, .ref pa, .ref aa, .int (jS J), .int (jN J), .float (jH J)])), (h, .inr (4, [.ref hs, .ref ht, .ref hq, .int (nI (sD S)), .int (sM S), .float (sP S), .int (sI S), .int (sC S), .int (sA S), .int (sR S), .int (nI (sK S))])), (ba, .inl (E 0, 12, .inl (btF (sD S))))]) (bytes := cX1_bend) (maxL := 6) (ret := none) hc hw hl.1 (m_X1_bend (l := l) (D := D) (E := E) (T := T) pl h (.ref fa) (.int (nI nf)) (.int (nI nw)) (.ref xa) (.ref pa) (.ref aa) (.int (jS J)) (.int (jN J)) (.float (jH J)) (.ref hs) (.ref ht) (.ref hq) (.int (sM S)) (.float (sP S)) (.int (sI S)) (.int (sC S)) (.int (sA S)) (.int (sR S)) (.int (nI (sK S))) ba (sD S) (jB J) hok.d) ggX5_next_X1_bend rfl 69 rfl 11 10 12 rfl rfl rfl (by decide +kernel) (by rw [hR]; exact ⟨Nat.le_of_ble_eq_true rfl, Nat.le_of_ble_eq_true rfl⟩) [1, 7, 4] 1 1 rfl rfl (by decide) rfl [pl, h, ba] rfl rfl rfl rfl (Nat.le_of_ble_eq_true rfl) dX5_next_31 ⟨Nat.zero_le _, Nat.zero_le _⟩ (fun H locs hw => ?_)
  have hw : g_W D A s [(ob, .inr (5, [z0, .ref pl, .ref h, z3, z4, z5, z6, z7, z8, z9, z10])), (pl, .inr (1, [.ref fa, .int (nI nf), .int (nI nw), .ref xa, .ref ba, .ref pa, .ref aa, .int (jS J), .int (jN J), .float (jH J)])), (fa, .inl (E 0, 18, .inl fl)), (xa, .inl (E 0, 3, .inl x)), (ba, .inl (E 0, 12, .inl (btF (sD S)))), (pa, .inl (E 1, 4, .inr (.inr (.inl (jE J))))), (aa, .inl (E 1, 4, .inr (.inr (.inl (jA J))))), (h, .inr (4, [.ref hs, .ref ht, .ref hq, .int (nI (sD S)), .int (sM S), .float (sP S), .int (sI S), .int (sC S), .int (sA S), .int (sR S), .int (nI (sK S))])), (hs, .inl (E 1, 4, .inr (.inr (.inl (sF S))))), (ht, .inl (E 0, 4, .inl (sT S))), (hq, .inl (E 0, 18, .inl (sW S)))] H locs := hw
  refine lv_aload_n hx hb dX5_next_34 rfl (lv_at hl 0 rfl) ?_
  refine g_get (TT := TX5) hc hw inX5_next_X5 0 1 2 rfl rfl (by decide) rfl rfl dX5_next_35 ?_
  refine lv_aload_n hx hb dX5_next_38 rfl (lv_at hl 0 rfl) ?_
  refine g_get (TT := TX5) hc hw inX5_next_X5 0 2 1 rfl rfl (by decide) rfl rfl dX5_next_39 ?_
  refine g_cVN (As := [.ref h]) (n := 1) (rest := []) (wc := [(pl, .inr (1, [.ref fa, .int (nI nf), .int (nI nw), .ref xa, .ref ba, .ref pa, .ref aa, .int (jS J), .int (jN J), .float (jH J)])), (h, .inr (4, [.ref hs, .ref ht, .ref hq, .int (nI (sD S)), .int (sM S), .float (sP S), .int (sI S), .int (sC S), .int (sA S), .int (sR S), .int (nI (sK S))])), (xa, .inl (E 0, 3, .inl x)), (ba, .inl (E 0, 12, .inl (btF (sD S)))), (pa, .inl (E 1, 4, .inr (.inr (.inl (jE J))))), (aa, .inl (E 1, 4, .inr (.inr (.inl (jA J))))), (hs, .inl (E 1, 4, .inr (.inr (.inl (sF S))))), (ht, .inl (E 0, 4, .inl (sT S))), (hq, .inl (E 0, 18, .inl (sW S)))]) (w1 := [(pl, .inr (1, [.ref fa, .int (nI nf), .int (nI nw), .ref xa, .ref ba, .ref pa, .ref aa, .int (stF (sD S) (sF S) (epF (btF (sD S)) (sW S) nw (sK S) x) (FP.i2f ((sT S) 1))), .int (neF (sD S) (FP.i2f ((sT S) 1)) (aiF (sF S) (epF (btF (sD S)) (sW S) nw (sK S) x) (stF (sD S) (sF S) (epF (btF (sD S)) (sW S) nw (sK S) x) (FP.i2f ((sT S) 1)))) 4), .float (heF (sD S) (aiF (sF S) (epF (btF (sD S)) (sW S) nw (sK S) x) (stF (sD S) (sF S) (epF (btF (sD S)) (sW S) nw (sK S) x) (FP.i2f ((sT S) 1)))) 4)])), (h, .inr (4, [.ref hs, .ref ht, .ref hq, .int (nI (sD S)), .int (sM S), .float (sP S), .int (sI S), .int (sC S), .int (sA S), .int (sR S), .int (nI (sK S))])), (xa, .inl (E 0, 3, .inl x)), (ba, .inl (E 0, 12, .inl (btF (sD S)))), (pa, .inl (E 1, 4, .inr (.inr (.inl (epF (btF (sD S)) (sW S) nw (sK S) x))))), (aa, .inl (E 1, 4, .inr (.inr (.inl (amP (sD S) (aiF (sF S) (epF (btF (sD S)) (sW S) nw (sK S) x) (stF (sD S) (sF S) (epF (btF (sD S)) (sW S) nw (sK S) x) (FP.i2f ((sT S) 1)))) (jA J) 4))))), (hs, .inl (E 1, 4, .inr (.inr (.inl (sF S))))), (ht, .inl (E 0, 4, .inl (sT S))), (hq, .inl (E 0, 18, .inl (sW S)))]) (bytes := cX1_steer) (maxL := 6) (ret := none) hc hw hl.1 (m_X1_steer (l := l) (D := D) (E := E) (T := T) pl h (.ref fa) (.int (nI nf)) (.int (jS J)) (.int (jN J)) (.float (jH J)) (.int (sM S)) (.float (sP S)) (.int (sI S)) (.int (sC S)) (.int (sA S)) (.int (sR S)) nw xa ba pa aa hs ht hq (sD S) (sK S) x (btF (sD S)) (jE J) (jA J) (sF S) (sT S) (sW S) hok.d hok.f hnw (by have := hok.k; omega)) ggX5_next_X1_steer rfl 70 rfl 11 30 31 rfl rfl rfl (by decide +kernel) (by rw [hR]; exact ⟨Nat.le_of_ble_eq_true rfl, Nat.le_of_ble_eq_true rfl⟩) [1, 7, 3, 4, 5, 6, 8, 9, 10] 1 1 rfl rfl (by decide) rfl [pl, h, xa, ba, pa, aa, hs, ht, hq] rfl rfl rfl rfl (Nat.le_of_ble_eq_true rfl) dX5_next_42 ⟨Nat.zero_le _, Nat.zero_le _⟩ (fun H locs hw => ?_)
  have hw : g_W D A s [(ob, .inr (5, [z0, .ref pl, .ref h, z3, z4, z5, z6, z7, z8, z9, z10])), (pl, .inr (1, [.ref fa, .int (nI nf), .int (nI nw), .ref xa, .ref ba, .ref pa, .ref aa, .int (stF (sD S) (sF S) (epF (btF (sD S)) (sW S) nw (sK S) x) (FP.i2f ((sT S) 1))), .int (neF (sD S) (FP.i2f ((sT S) 1)) (aiF (sF S) (epF (btF (sD S)) (sW S) nw (sK S) x) (stF (sD S) (sF S) (epF (btF (sD S)) (sW S) nw (sK S) x) (FP.i2f ((sT S) 1)))) 4), .float (heF (sD S) (aiF (sF S) (epF (btF (sD S)) (sW S) nw (sK S) x) (stF (sD S) (sF S) (epF (btF (sD S)) (sW S) nw (sK S) x) (FP.i2f ((sT S) 1)))) 4)])), (fa, .inl (E 0, 18, .inl fl)), (xa, .inl (E 0, 3, .inl x)), (ba, .inl (E 0, 12, .inl (btF (sD S)))), (pa, .inl (E 1, 4, .inr (.inr (.inl (epF (btF (sD S)) (sW S) nw (sK S) x))))), (aa, .inl (E 1, 4, .inr (.inr (.inl (amP (sD S) (aiF (sF S) (epF (btF (sD S)) (sW S) nw (sK S) x) (stF (sD S) (sF S) (epF (btF (sD S)) (sW S) nw (sK S) x) (FP.i2f ((sT S) 1)))) (jA J) 4))))), (h, .inr (4, [.ref hs, .ref ht, .ref hq, .int (nI (sD S)), .int (sM S), .float (sP S), .int (sI S), .int (sC S), .int (sA S), .int (sR S), .int (nI (sK S))])), (hs, .inl (E 1, 4, .inr (.inr (.inl (sF S))))), (ht, .inl (E 0, 4, .inl (sT S))), (hq, .inl (E 0, 18, .inl (sW S)))] H locs := hw
  have hw : g_W D A s [(ob, .inr (5, [z0, .ref pl, .ref h, z3, z4, z5, z6, z7, z8, z9, z10])), (pl, .inr (1, [.ref fa, .int (nI nf), .int (nI nw), .ref xa, .ref ba, .ref pa, .ref aa, .int (jS (jgF nw x S J)), .int (jN (jgF nw x S J)), .float (jH (jgF nw x S J))])), (fa, .inl (E 0, 18, .inl fl)), (xa, .inl (E 0, 3, .inl x)), (ba, .inl (E 0, 12, .inl (jB (jgF nw x S J)))), (pa, .inl (E 1, 4, .inr (.inr (.inl (jE (jgF nw x S J)))))), (aa, .inl (E 1, 4, .inr (.inr (.inl (jA (jgF nw x S J)))))), (h, .inr (4, [.ref hs, .ref ht, .ref hq, .int (nI (sD S)), .int (sM S), .float (sP S), .int (sI S), .int (sC S), .int (sA S), .int (sR S), .int (nI (sK S))])), (hs, .inl (E 1, 4, .inr (.inr (.inl (sF S))))), (ht, .inl (E 0, 4, .inl (sT S))), (hq, .inl (E 0, 18, .inl (sW S)))] H locs := hw
  refine lv_aload_n hx hb dX5_next_45 rfl (lv_at hl 0 rfl) ?_
  refine g_get (TT := TX5) hc hw inX5_next_X5 0 2 1 rfl rfl (by decide) rfl rfl dX5_next_46 ?_
  refine lv_iload_n hx hb dX5_next_49 rfl (lv_at hl 1 rfl) ?_
  refine g_cVN (As := [.int (nI k)]) (n := 1) (rest := []) (wc := [(h, .inr (4, [.ref hs, .ref ht, .ref hq, .int (nI (sD S)), .int (sM S), .float (sP S), .int (sI S), .int (sC S), .int (sA S), .int (sR S), .int (nI (sK S))]))]) (w1 := [(h, .inr (4, [.ref hs, .ref ht, .ref hq, .int (nI (sD S)), .int (sM S), .float (sP S), .int (sI S), .int (sC S), .int (sA S), .int (sR S), .int (nI (sK S))]))]) (bytes := cX4_isDead) (maxL := 2) (ret := (some .boolean)) hc hw hl.1 (m_X4_isDead (l := l) (D := D) (E := E) (T := T) h (.ref hs) (.ref ht) (.ref hq) (.int (sM S)) (.float (sP S)) (.int (sI S)) (.int (sC S)) (.int (sA S)) (.int (sR S)) (.int (nI (sK S))) (sD S) k hok.d (by omega)) ggX5_next_X4_isDead rfl 52 rfl 16 27 28 rfl rfl rfl (by decide +kernel) (by rw [hR]; exact ⟨Nat.le_of_ble_eq_true rfl, Nat.le_of_ble_eq_true rfl⟩) [7] 7 4 rfl rfl (by decide) rfl [h] rfl rfl rfl rfl (Nat.le_of_ble_eq_true rfl) dX5_next_50 ⟨Nat.zero_le _, Nat.zero_le _⟩ (fun H locs hw => ?_)
  have hw : g_W D A s [(ob, .inr (5, [z0, .ref pl, .ref h, z3, z4, z5, z6, z7, z8, z9, z10])), (pl, .inr (1, [.ref fa, .int (nI nf), .int (nI nw), .ref xa, .ref ba, .ref pa, .ref aa, .int (jS (jgF nw x S J)), .int (jN (jgF nw x S J)), .float (jH (jgF nw x S J))])), (fa, .inl (E 0, 18, .inl fl)), (xa, .inl (E 0, 3, .inl x)), (ba, .inl (E 0, 12, .inl (jB (jgF nw x S J)))), (pa, .inl (E 1, 4, .inr (.inr (.inl (jE (jgF nw x S J)))))), (aa, .inl (E 1, 4, .inr (.inr (.inl (jA (jgF nw x S J)))))), (h, .inr (4, [.ref hs, .ref ht, .ref hq, .int (nI (sD S)), .int (sM S), .float (sP S), .int (sI S), .int (sC S), .int (sA S), .int (sR S), .int (nI (sK S))])), (hs, .inl (E 1, 4, .inr (.inr (.inl (sF S))))), (ht, .inl (E 0, 4, .inl (sT S))), (hq, .inl (E 0, 18, .inl (sW S)))] H locs := hw
  refine lv_if_eq (tgt := 68) hx hb dX5_next_53 (by decide) (fun c_53 => ?_) (fun c_53 => ?_)
  · skip
    have k_53 := b2i_eq c_53
    refine lv_aload_n hx hb dX5_next_68 rfl (lv_at hl 0 rfl) ?_
    refine g_get (TT := TX5) hc hw inX5_next_X5 0 1 2 rfl rfl (by decide) rfl rfl dX5_next_69 ?_
    refine g_getN (TT := TX1) hc hw inX5_next_X1 1 6 9 rfl rfl (by decide) rfl rfl dX5_next_72 ?_
    refine lv_iload_n hx hb dX5_next_75 rfl (lv_at hl 1 rfl) ?_
    refine g_fld hc hw 6 k rfl rfl (by omega) (by decide) dX5_next_76 ?_
    refine W.eq (congrArg (fun z => F0 m 77 ls (.float z :: [])) (show ((jA (jgF nw x S J)) k : UInt32) = aS nw x S k from (am_live (aS nw x S) (jA J) k_53 (by omega)).symm)) ?_
    refine g_cS (As := [.float (aS nw x S k)]) (n := 1) (rest := []) (wc := []) (w1 := []) (bytes := cX5_bitsOf) (maxL := 4) (ret := (some .int)) hc hw hl.1 (m_X5_bitsOf (l := l) (D := D) (E := E) (T := T) (aS nw x S k) (g_mgW (aS_mg hok nw x k (by omega)).1 (by decide)) ((aS_mg hok nw x k (by omega)).2)) gX5_next_X5_bitsOf rfl (by decide +kernel) (by rw [hR]; exact ⟨Nat.le_of_ble_eq_true rfl, Nat.le_of_ble_eq_true rfl⟩) [] (by decide) rfl [] rfl rfl rfl rfl (Nat.le_of_ble_eq_true rfl) dX5_next_77 ⟨Nat.zero_le _, Nat.zero_le _⟩ (fun H locs hw => ?_)
    have hw : g_W D A s [(ob, .inr (5, [z0, .ref pl, .ref h, z3, z4, z5, z6, z7, z8, z9, z10])), (pl, .inr (1, [.ref fa, .int (nI nf), .int (nI nw), .ref xa, .ref ba, .ref pa, .ref aa, .int (jS (jgF nw x S J)), .int (jN (jgF nw x S J)), .float (jH (jgF nw x S J))])), (fa, .inl (E 0, 18, .inl fl)), (xa, .inl (E 0, 3, .inl x)), (ba, .inl (E 0, 12, .inl (jB (jgF nw x S J)))), (pa, .inl (E 1, 4, .inr (.inr (.inl (jE (jgF nw x S J)))))), (aa, .inl (E 1, 4, .inr (.inr (.inl (jA (jgF nw x S J)))))), (h, .inr (4, [.ref hs, .ref ht, .ref hq, .int (nI (sD S)), .int (sM S), .float (sP S), .int (sI S), .int (sC S), .int (sA S), .int (sR S), .int (nI (sK S))])), (hs, .inl (E 1, 4, .inr (.inr (.inl (sF S))))), (ht, .inl (E 0, 4, .inl (sT S))), (hq, .inl (E 0, 18, .inl (sW S)))] H locs := hw
    exact g_iret hQ hc hw hr (by exact congrArg (fun z => some (Value.int z)) (congrArg bitI (if_neg (by rw [k_53]; decide)))) rfl dX5_next_80
  · skip
    have k_53 := b2i_ne c_53
    refine lv_aload_n hx hb dX5_next_56 rfl (lv_at hl 0 rfl) ?_
    refine g_get (TT := TX5) hc hw inX5_next_X5 0 2 1 rfl rfl (by decide) rfl rfl dX5_next_57 ?_
    refine g_getN (TT := TX4) hc hw inX5_next_X4 7 0 16 rfl rfl (by decide) rfl rfl dX5_next_60 ?_
    refine lv_iload_n hx hb dX5_next_63 rfl (lv_at hl 1 rfl) ?_
    refine g_fld hc hw 8 k rfl rfl (by omega) (by decide) dX5_next_64 ?_
    refine lv_goto (tgt := 77) hx hb dX5_next_65 (by decide) ?_
    refine g_cS (As := [.float ((sF S) k)]) (n := 1) (rest := []) (wc := []) (w1 := []) (bytes := cX5_bitsOf) (maxL := 4) (ret := (some .int)) hc hw hl.1 (m_X5_bitsOf (l := l) (D := D) (E := E) (T := T) ((sF S) k) (g_mgW (hok.f k (by omega)) (by decide)) ((hok.2.2.2.2.1 k (by omega)).2)) gX5_next_X5_bitsOf rfl (by decide +kernel) (by rw [hR]; exact ⟨Nat.le_of_ble_eq_true rfl, Nat.le_of_ble_eq_true rfl⟩) [] (by decide) rfl [] rfl rfl rfl rfl (Nat.le_of_ble_eq_true rfl) dX5_next_77 ⟨Nat.zero_le _, Nat.zero_le _⟩ (fun H locs hw => ?_)
    have hw : g_W D A s [(ob, .inr (5, [z0, .ref pl, .ref h, z3, z4, z5, z6, z7, z8, z9, z10])), (pl, .inr (1, [.ref fa, .int (nI nf), .int (nI nw), .ref xa, .ref ba, .ref pa, .ref aa, .int (jS (jgF nw x S J)), .int (jN (jgF nw x S J)), .float (jH (jgF nw x S J))])), (fa, .inl (E 0, 18, .inl fl)), (xa, .inl (E 0, 3, .inl x)), (ba, .inl (E 0, 12, .inl (jB (jgF nw x S J)))), (pa, .inl (E 1, 4, .inr (.inr (.inl (jE (jgF nw x S J)))))), (aa, .inl (E 1, 4, .inr (.inr (.inl (jA (jgF nw x S J)))))), (h, .inr (4, [.ref hs, .ref ht, .ref hq, .int (nI (sD S)), .int (sM S), .float (sP S), .int (sI S), .int (sC S), .int (sA S), .int (sR S), .int (nI (sK S))])), (hs, .inl (E 1, 4, .inr (.inr (.inl (sF S))))), (ht, .inl (E 0, 4, .inl (sT S))), (hq, .inl (E 0, 18, .inl (sW S)))] H locs := hw
    exact g_iret hQ hc hw hr (by exact congrArg (fun z => some (Value.int z)) (congrArg bitI (if_pos k_53))) rfl dX5_next_80

theorem dX5_ahead_0 : decode cX5_ahead 0 = .ok (.iload_n 1, 1) := by decide +kernel
theorem dX5_ahead_1 : decode cX5_ahead 1 = .ok (.iconst 0, 1) := by decide +kernel
theorem dX5_ahead_2 : decode cX5_ahead 2 = .ok (.bipush 99, 2) := by decide +kernel
theorem dX5_ahead_4 : decode cX5_ahead 4 = .ok (.invokestatic 59, 3) := by decide +kernel
theorem dX5_ahead_7 : decode cX5_ahead 7 = .ok (.ifCond .eq 6, 3) := by decide +kernel
theorem dX5_ahead_10 : decode cX5_ahead 10 = .ok (.bipush (-2), 2) := by decide +kernel
theorem dX5_ahead_12 : decode cX5_ahead 12 = .ok (.ireturn, 1) := by decide +kernel
set_option maxRecDepth 20000 in
theorem ggX5_ahead_X5_outside : GoodIn wsX5_ahead wsX5_outside := goodIn_r _ [6] rfl (by decide +kernel)
set_option maxRecDepth 20000 in
theorem gX5_ahead_X5_outside : GoodIn wsX5_ahead (va_wsS RX5 59 yX5_outside wsX5_outside) := goodIn_app (goodIn_of _ (by decide +kernel)) ggX5_ahead_X5_outside
set_option maxRecDepth 100000 in
set_option maxHeartbeats 4000000 in
theorem m_X5_ahead_out {l : Launch} {D : va_G} {E : Nat → ClassId} {T : Nat → Nat} (ob : Nat) (z0 : Value) (z1 : Value) (z2 : Value) (z3 : Value) (z4 : Value) (z5 : Value) (z6 : Value) (z7 : Value) (z8 : Value) (z9 : Value) (z10 : Value) (v : Int32) (w : Int32) (ho : outB v 0 99 = true) : g_M l D E T yX5_ahead wsX5_ahead 1 22 [.ref ob, .int v, .int w] [(ob, .inr (5, [z0, z1, z2, z3, z4, z5, z6, z7, z8, z9, z10]))] [(ob, .inr (5, [z0, z1, z2, z3, z4, z5, z6, z7, z8, z9, z10]))] (some (.int (-2))) := by
  refine g_M.of (cc := cX5_ahead) (nL := 3) (ret := (some .int)) (own := RX5) (lv := [(0, .ref ob), (1, .int v), (2, .int w)]) (by decide) rfl rfl (Nat.le_of_ble_eq_true rfl) rfl ?_
  intro p e R s m args below meth c A Q H locs ls hR hQ hc hr hw hl
  have hx := hc.1
  have hb := hc.2.1
  have hts := hc.2.2.2.1
  have hown := hc.2.2.2.2.1
  refine lv_iload_n hx hb dX5_ahead_0 rfl (lv_at hl 1 rfl) ?_
  refine lv_iconst (v := 0) hx hb dX5_ahead_1 (by decide) ?_
  refine lv_bipush (v := 99) hx hb dX5_ahead_2 (by decide) ?_
  refine g_cS (As := [.int v, .int 0, .int 99]) (n := 3) (rest := []) (wc := []) (w1 := []) (bytes := cX5_outside) (maxL := 3) (ret := (some .boolean)) hc hw hl.1 (m_X5_outside (l := l) (D := D) (E := E) (T := T) v 0 99) gX5_ahead_X5_outside rfl (by decide +kernel) (by rw [hR]; exact ⟨Nat.le_of_ble_eq_true rfl, Nat.le_of_ble_eq_true rfl⟩) [] (by decide) rfl [] rfl rfl rfl rfl (Nat.le_of_ble_eq_true rfl) dX5_ahead_4 ⟨Nat.zero_le _, Nat.zero_le _⟩ (fun H locs hw => ?_)
  have hw : g_W D A s [(ob, .inr (5, [z0, z1, z2, z3, z4, z5, z6, z7, z8, z9, z10]))] H locs := hw
  refine W.eq (congrArg (fun z => F0 m 7 ls (.int z :: [])) (show (b2i (outB v 0 99) : Int32) = 1 from (congrArg b2i ho))) ?_
  refine lv_if_eq (tgt := 13) hx hb dX5_ahead_7 (by decide) (fun c_7 => absurd c_7 (by decide)) (fun c_7 => ?_)
  refine lv_bipush (v := (-2)) hx hb dX5_ahead_10 (by decide) ?_
  exact g_iret hQ hc hw hr rfl rfl dX5_ahead_12

theorem dX5_ahead_13 : decode cX5_ahead 13 = .ok (.iload_n 2, 1) := by decide +kernel
theorem dX5_ahead_14 : decode cX5_ahead 14 = .ok (.invokestatic 88, 3) := by decide +kernel
theorem dX5_ahead_17 : decode cX5_ahead 17 = .ok (.ifCond .eq 5, 3) := by decide +kernel
theorem dX5_ahead_20 : decode cX5_ahead 20 = .ok (.iconst (-1), 1) := by decide +kernel
theorem dX5_ahead_21 : decode cX5_ahead 21 = .ok (.ireturn, 1) := by decide +kernel
set_option maxRecDepth 20000 in
theorem ggX5_ahead_X5_noWheel : GoodIn wsX5_ahead wsX5_noWheel := goodIn_r _ [9, 3, 4, 5, 6] rfl (by decide +kernel)
set_option maxRecDepth 20000 in
theorem gX5_ahead_X5_noWheel : GoodIn wsX5_ahead (va_wsS RX5 88 yX5_noWheel wsX5_noWheel) := goodIn_app (goodIn_of _ (by decide +kernel)) ggX5_ahead_X5_noWheel
set_option maxRecDepth 100000 in
set_option maxHeartbeats 4000000 in
theorem m_X5_ahead_wheel {l : Launch} {D : va_G} {E : Nat → ClassId} {T : Nat → Nat} (ob : Nat) (n : Nat) (z0 : Value) (z1 : Value) (z2 : Value) (z3 : Value) (z4 : Value) (z5 : Value) (z6 : Value) (z7 : Value) (z8 : Value) (z9 : Value) (z10 : Value) (w : Int32) (hn : n ≤ 99) (ho : outB w 0 3 = true) : g_M l D E T yX5_ahead wsX5_ahead 2 42 [.ref ob, .int (nI n), .int w] [(ob, .inr (5, [z0, z1, z2, z3, z4, z5, z6, z7, z8, z9, z10]))] [(ob, .inr (5, [z0, z1, z2, z3, z4, z5, z6, z7, z8, z9, z10]))] (some (.int (-1))) := by
  refine g_M.of (cc := cX5_ahead) (nL := 3) (ret := (some .int)) (own := RX5) (lv := [(0, .ref ob), (1, .int (nI n)), (2, .int w)]) (by decide) rfl rfl (Nat.le_of_ble_eq_true rfl) rfl ?_
  intro p e R s m args below meth c A Q H locs ls hR hQ hc hr hw hl
  have hx := hc.1
  have hb := hc.2.1
  have hts := hc.2.2.2.1
  have hown := hc.2.2.2.2.1
  refine lv_iload_n hx hb dX5_ahead_0 rfl (lv_at hl 1 rfl) ?_
  refine lv_iconst (v := 0) hx hb dX5_ahead_1 (by decide) ?_
  refine lv_bipush (v := 99) hx hb dX5_ahead_2 (by decide) ?_
  refine g_cS (As := [.int (nI n), .int 0, .int 99]) (n := 3) (rest := []) (wc := []) (w1 := []) (bytes := cX5_outside) (maxL := 3) (ret := (some .boolean)) hc hw hl.1 (m_X5_outside (l := l) (D := D) (E := E) (T := T) (nI n) 0 99) gX5_ahead_X5_outside rfl (by decide +kernel) (by rw [hR]; exact ⟨Nat.le_of_ble_eq_true rfl, Nat.le_of_ble_eq_true rfl⟩) [] (by decide) rfl [] rfl rfl rfl rfl (Nat.le_of_ble_eq_true rfl) dX5_ahead_4 ⟨Nat.zero_le _, Nat.zero_le _⟩ (fun H locs hw => ?_)
  have hw : g_W D A s [(ob, .inr (5, [z0, z1, z2, z3, z4, z5, z6, z7, z8, z9, z10]))] H locs := hw
  refine W.eq (congrArg (fun z => F0 m 7 ls (.int z :: [])) (show (b2i (outB (nI n) 0 99) : Int32) = 0 from (congrArg b2i (out_nf (n := n) (a := 0) (b := 99) (by omega) hn (by decide))))) ?_
  refine lv_if_eq (tgt := 13) hx hb dX5_ahead_7 (by decide) (fun c_7 => ?_) (fun c_7 => absurd c_7 (by decide))
  refine lv_iload_n hx hb dX5_ahead_13 rfl (lv_at hl 2 rfl) ?_
  refine g_cS (As := [.int w]) (n := 1) (rest := []) (wc := []) (w1 := []) (bytes := cX5_noWheel) (maxL := 1) (ret := (some .boolean)) hc hw hl.1 (m_X5_noWheel (l := l) (D := D) (E := E) (T := T) w) gX5_ahead_X5_noWheel rfl (by decide +kernel) (by rw [hR]; exact ⟨Nat.le_of_ble_eq_true rfl, Nat.le_of_ble_eq_true rfl⟩) [] (by decide) rfl [] rfl rfl rfl rfl (Nat.le_of_ble_eq_true rfl) dX5_ahead_14 ⟨Nat.zero_le _, Nat.zero_le _⟩ (fun H locs hw => ?_)
  have hw : g_W D A s [(ob, .inr (5, [z0, z1, z2, z3, z4, z5, z6, z7, z8, z9, z10]))] H locs := hw
  refine W.eq (congrArg (fun z => F0 m 17 ls (.int z :: [])) (show (b2i (outB w 0 3) : Int32) = 1 from (congrArg b2i ho))) ?_
  refine lv_if_eq (tgt := 22) hx hb dX5_ahead_17 (by decide) (fun c_17 => absurd c_17 (by decide)) (fun c_17 => ?_)
  refine lv_iconst (v := (-1)) hx hb dX5_ahead_20 (by decide) ?_
  exact g_iret hQ hc hw hr rfl rfl dX5_ahead_21

theorem dX5_ahead_22 : decode cX5_ahead 22 = .ok (.aload_n 0, 1) := by decide +kernel
theorem dX5_ahead_23 : decode cX5_ahead 23 = .ok (.invokevirtual 187, 3) := by decide +kernel
theorem dX5_ahead_26 : decode cX5_ahead 26 = .ok (.aload_n 0, 1) := by decide +kernel
theorem dX5_ahead_27 : decode cX5_ahead 27 = .ok (.getfield 19, 3) := by decide +kernel
theorem dX5_ahead_30 : decode cX5_ahead 30 = .ok (.aload_n 0, 1) := by decide +kernel
theorem dX5_ahead_31 : decode cX5_ahead 31 = .ok (.getfield 30, 3) := by decide +kernel
theorem dX5_ahead_34 : decode cX5_ahead 34 = .ok (.iload_n 1, 1) := by decide +kernel
theorem dX5_ahead_35 : decode cX5_ahead 35 = .ok (.invokevirtual 130, 3) := by decide +kernel
theorem dX5_ahead_38 : decode cX5_ahead 38 = .ok (.aload_n 0, 1) := by decide +kernel
theorem dX5_ahead_39 : decode cX5_ahead 39 = .ok (.getfield 30, 3) := by decide +kernel
theorem dX5_ahead_42 : decode cX5_ahead 42 = .ok (.getfield 92, 3) := by decide +kernel
theorem dX5_ahead_45 : decode cX5_ahead 45 = .ok (.iload_n 2, 1) := by decide +kernel
theorem dX5_ahead_46 : decode cX5_ahead 46 = .ok (.faload, 1) := by decide +kernel
theorem dX5_ahead_47 : decode cX5_ahead 47 = .ok (.invokestatic 96, 3) := by decide +kernel
theorem dX5_ahead_50 : decode cX5_ahead 50 = .ok (.ireturn, 1) := by decide +kernel
set_option maxRecDepth 20000 in
theorem ggX5_ahead_X5_copyNow : GoodIn wsX5_ahead wsX5_copyNow := goodIn_r _ [13, 2, 14, 15, 16, 17, 18, 19, 20, 21, 22, 23, 24, 25, 26, 27, 28, 29, 30, 31, 32, 33, 120, 121, 122, 123, 124, 125, 126, 127, 128, 129, 130, 131, 132, 133, 134, 135, 136, 137, 138, 139, 140, 141] rfl (by decide +kernel)
set_option maxRecDepth 20000 in
theorem gX5_ahead_X5_copyNow : GoodIn wsX5_ahead (wsV RX5 187 RX5 yX5_copyNow wsX5_copyNow) := goodIn_app (goodIn_of _ (by decide +kernel)) ggX5_ahead_X5_copyNow
set_option maxRecDepth 20000 in
theorem ggX5_ahead_X1_passMany : GoodIn wsX5_ahead wsX1_passMany := goodIn_r _ [37, 38, 39, 40, 35, 41, 42, 43, 44, 45, 46, 47, 48, 16, 49, 50, 26, 51, 52, 53, 54, 55, 56, 57, 58, 59, 60, 61, 62, 63, 64, 65, 66, 67, 68, 69, 70, 71, 72, 73, 74, 75, 76, 77, 78, 79, 80, 81, 82, 83, 84, 5, 85, 86, 87, 88, 89, 90, 91, 92, 93, 94, 95, 96, 97, 98, 99, 100, 101, 102, 103, 104, 105, 106, 19, 107, 108, 109, 110, 111, 112, 113, 131, 132, 133, 134, 135, 136, 137, 138, 139, 140, 141, 142, 143, 144, 145, 146, 147, 148, 149, 150, 151] rfl (by decide +kernel)
set_option maxRecDepth 20000 in
theorem ggX5_ahead_X5_bitsOf : GoodIn wsX5_ahead wsX5_bitsOf := goodIn_r _ [116, 117, 118, 119, 84, 5, 85] rfl (by decide +kernel)
set_option maxRecDepth 20000 in
theorem gX5_ahead_X5_bitsOf : GoodIn wsX5_ahead (va_wsS RX5 96 yX5_bitsOf wsX5_bitsOf) := goodIn_app (goodIn_of _ (by decide +kernel)) ggX5_ahead_X5_bitsOf
theorem inX5_ahead_X4 : ∀ w ∈ u_ws RX4 TX4 11, w ∈ wsX5_ahead := fun w h => List.mem_cons_of_mem _ (List.mem_append_left _ (List.mem_append_right _ h))
theorem inX5_ahead_X5 : ∀ w ∈ u_ws RX5 TX5 11, w ∈ wsX5_ahead := fun w h => List.mem_cons_of_mem _ (List.mem_append_left _ (List.mem_append_left _ (List.mem_append_right _ h)))
set_option maxRecDepth 100000 in
set_option maxHeartbeats 4000000 in
theorem m_X5_ahead {l : Launch} {D : va_G} {E : Nat → ClassId} {T : Nat → Nat} (pl : Nat) (fa : Nat) (nf : Nat) (nw : Nat) (xa : Nat) (ba : Nat) (pa : Nat) (aa : Nat) (fl : Nat → Int32) (x : Nat → Int32) (J : PJ) (h : Nat) (hs : Nat) (ht : Nat) (hq : Nat) (S : TS) (B : Nat) (ob : Nat) (kh : Nat) (ks : Nat) (kt : Nat) (kq : Nat) (z0 : Value) (z4 : Value) (z5 : Value) (z6 : Value) (z7 : Value) (z8 : Value) (z9 : Value) (z10 : Value) (U : TS) (n : Nat) (k : Nat) (hok : OkS B S) (hB : B + 300 < 2 ^ 31) (hnw : nw ≤ 6) (hnf : nf ≤ 6) (hn : n ≤ 99) (hk : k ≤ 3) : g_M l D E T yX5_ahead wsX5_ahead 5 123 [.ref ob, .int (nI n), .int (nI k)] [(ob, .inr (5, [z0, .ref pl, .ref h, .ref kh, z4, z5, z6, z7, z8, z9, z10])), (pl, .inr (1, [.ref fa, .int (nI nf), .int (nI nw), .ref xa, .ref ba, .ref pa, .ref aa, .int (jS J), .int (jN J), .float (jH J)])), (fa, .inl (E 0, 18, .inl fl)), (xa, .inl (E 0, 3, .inl x)), (ba, .inl (E 0, 12, .inl (jB J))), (pa, .inl (E 1, 4, .inr (.inr (.inl (jE J))))), (aa, .inl (E 1, 4, .inr (.inr (.inl (jA J))))), (h, .inr (4, [.ref hs, .ref ht, .ref hq, .int (nI (sD S)), .int (sM S), .float (sP S), .int (sI S), .int (sC S), .int (sA S), .int (sR S), .int (nI (sK S))])), (hs, .inl (E 1, 4, .inr (.inr (.inl (sF S))))), (ht, .inl (E 0, 4, .inl (sT S))), (hq, .inl (E 0, 18, .inl (sW S))), (kh, .inr (4, [.ref ks, .ref kt, .ref kq, .int (nI (sD U)), .int (sM U), .float (sP U), .int (sI U), .int (sC U), .int (sA U), .int (sR U), .int (nI (sK U))])), (ks, .inl (E 1, 4, .inr (.inr (.inl (sF U))))), (kt, .inl (E 0, 4, .inl (sT U))), (kq, .inl (E 0, 18, .inl (sW U)))] [(ob, .inr (5, [z0, .ref pl, .ref h, .ref kh, z4, z5, z6, z7, z8, z9, z10])), (pl, .inr (1, [.ref fa, .int (nI nf), .int (nI nw), .ref xa, .ref ba, .ref pa, .ref aa, .int (jS (jnN nw nf fl x S J n)), .int (jN (jnN nw nf fl x S J n)), .float (jH (jnN nw nf fl x S J n))])), (fa, .inl (E 0, 18, .inl fl)), (xa, .inl (E 0, 3, .inl x)), (ba, .inl (E 0, 12, .inl (jB (jnN nw nf fl x S J n)))), (pa, .inl (E 1, 4, .inr (.inr (.inl (jE (jnN nw nf fl x S J n)))))), (aa, .inl (E 1, 4, .inr (.inr (.inl (jA (jnN nw nf fl x S J n)))))), (h, .inr (4, [.ref hs, .ref ht, .ref hq, .int (nI (sD S)), .int (sM S), .float (sP S), .int (sI S), .int (sC S), .int (sA S), .int (sR S), .int (nI (sK S))])), (hs, .inl (E 1, 4, .inr (.inr (.inl (sF S))))), (ht, .inl (E 0, 4, .inl (sT S))), (hq, .inl (E 0, 18, .inl (sW S))), (kh, .inr (4, [.ref ks, .ref kt, .ref kq, .int (nI (sD (tkN nw nf fl x S n))), .int (sM (tkN nw nf fl x S n)), .float (sP (tkN nw nf fl x S n)), .int (sI (tkN nw nf fl x S n)), .int (sC (tkN nw nf fl x S n)), .int (sA (tkN nw nf fl x S n)), .int (sR (tkN nw nf fl x S n)), .int (nI (sK (tkN nw nf fl x S n)))])), (ks, .inl (E 1, 4, .inr (.inr (.inl (sF (tkN nw nf fl x S n)))))), (kt, .inl (E 0, 4, .inl (sT (tkN nw nf fl x S n)))), (kq, .inl (E 0, 18, .inl (sW (tkN nw nf fl x S n))))] (some (.int (bitI (sF (tkN nw nf fl x S n) k)))) := by
  refine g_M.of (cc := cX5_ahead) (nL := 3) (ret := (some .int)) (own := RX5) (lv := [(0, .ref ob), (1, .int (nI n)), (2, .int (nI k))]) (by decide) rfl rfl (Nat.le_of_ble_eq_true rfl) rfl ?_
  intro p e R s m args below meth c A Q H locs ls hR hQ hc hr hw hl
  have hx := hc.1
  have hb := hc.2.1
  have hts := hc.2.2.2.1
  have hown := hc.2.2.2.2.1
  refine lv_iload_n hx hb dX5_ahead_0 rfl (lv_at hl 1 rfl) ?_
  refine lv_iconst (v := 0) hx hb dX5_ahead_1 (by decide) ?_
  refine lv_bipush (v := 99) hx hb dX5_ahead_2 (by decide) ?_
  refine g_cS (As := [.int (nI n), .int 0, .int 99]) (n := 3) (rest := []) (wc := []) (w1 := []) (bytes := cX5_outside) (maxL := 3) (ret := (some .boolean)) hc hw hl.1 (m_X5_outside (l := l) (D := D) (E := E) (T := T) (nI n) 0 99) gX5_ahead_X5_outside rfl (by decide +kernel) (by rw [hR]; exact ⟨Nat.le_of_ble_eq_true rfl, Nat.le_of_ble_eq_true rfl⟩) [] (by decide) rfl [] rfl rfl rfl rfl (Nat.le_of_ble_eq_true rfl) dX5_ahead_4 ⟨Nat.zero_le _, Nat.zero_le _⟩ (fun H locs hw => ?_)
  have hw : g_W D A s [(ob, .inr (5, [z0, .ref pl, .ref h, .ref kh, z4, z5, z6, z7, z8, z9, z10])), (pl, .inr (1, [.ref fa, .int (nI nf), .int (nI nw), .ref xa, .ref ba, .ref pa, .ref aa, .int (jS J), .int (jN J), .float (jH J)])), (fa, .inl (E 0, 18, .inl fl)), (xa, .inl (E 0, 3, .inl x)), (ba, .inl (E 0, 12, .inl (jB J))), (pa, .inl (E 1, 4, .inr (.inr (.inl (jE J))))), (aa, .inl (E 1, 4, .inr (.inr (.inl (jA J))))), (h, .inr (4, [.ref hs, .ref ht, .ref hq, .int (nI (sD S)), .int (sM S), .float (sP S), .int (sI S), .int (sC S), .int (sA S), .int (sR S), .int (nI (sK S))])), (hs, .inl (E 1, 4, .inr (.inr (.inl (sF S))))), (ht, .inl (E 0, 4, .inl (sT S))), (hq, .inl (E 0, 18, .inl (sW S))), (kh, .inr (4, [.ref ks, .ref kt, .ref kq, .int (nI (sD U)), .int (sM U), .float (sP U), .int (sI U), .int (sC U), .int (sA U), .int (sR U), .int (nI (sK U))])), (ks, .inl (E 1, 4, .inr (.inr (.inl (sF U))))), (kt, .inl (E 0, 4, .inl (sT U))), (kq, .inl (E 0, 18, .inl (sW U)))] H locs := hw
  refine W.eq (congrArg (fun z => F0 m 7 ls (.int z :: [])) (show (b2i (outB (nI n) 0 99) : Int32) = 0 from (congrArg b2i (out_nf (n := n) (a := 0) (b := 99) (by omega) hn (by decide))))) ?_
  refine lv_if_eq (tgt := 13) hx hb dX5_ahead_7 (by decide) (fun c_7 => ?_) (fun c_7 => absurd c_7 (by decide))
  refine lv_iload_n hx hb dX5_ahead_13 rfl (lv_at hl 2 rfl) ?_
  refine g_cS (As := [.int (nI k)]) (n := 1) (rest := []) (wc := []) (w1 := []) (bytes := cX5_noWheel) (maxL := 1) (ret := (some .boolean)) hc hw hl.1 (m_X5_noWheel (l := l) (D := D) (E := E) (T := T) (nI k)) gX5_ahead_X5_noWheel rfl (by decide +kernel) (by rw [hR]; exact ⟨Nat.le_of_ble_eq_true rfl, Nat.le_of_ble_eq_true rfl⟩) [] (by decide) rfl [] rfl rfl rfl rfl (Nat.le_of_ble_eq_true rfl) dX5_ahead_14 ⟨Nat.zero_le _, Nat.zero_le _⟩ (fun H locs hw => ?_)
  have hw : g_W D A s [(ob, .inr (5, [z0, .ref pl, .ref h, .ref kh, z4, z5, z6, z7, z8, z9, z10])), (pl, .inr (1, [.ref fa, .int (nI nf), .int (nI nw), .ref xa, .ref ba, .ref pa, .ref aa, .int (jS J), .int (jN J), .float (jH J)])), (fa, .inl (E 0, 18, .inl fl)), (xa, .inl (E 0, 3, .inl x)), (ba, .inl (E 0, 12, .inl (jB J))), (pa, .inl (E 1, 4, .inr (.inr (.inl (jE J))))), (aa, .inl (E 1, 4, .inr (.inr (.inl (jA J))))), (h, .inr (4, [.ref hs, .ref ht, .ref hq, .int (nI (sD S)), .int (sM S), .float (sP S), .int (sI S), .int (sC S), .int (sA S), .int (sR S), .int (nI (sK S))])), (hs, .inl (E 1, 4, .inr (.inr (.inl (sF S))))), (ht, .inl (E 0, 4, .inl (sT S))), (hq, .inl (E 0, 18, .inl (sW S))), (kh, .inr (4, [.ref ks, .ref kt, .ref kq, .int (nI (sD U)), .int (sM U), .float (sP U), .int (sI U), .int (sC U), .int (sA U), .int (sR U), .int (nI (sK U))])), (ks, .inl (E 1, 4, .inr (.inr (.inl (sF U))))), (kt, .inl (E 0, 4, .inl (sT U))), (kq, .inl (E 0, 18, .inl (sW U)))] H locs := hw
  refine W.eq (congrArg (fun z => F0 m 17 ls (.int z :: [])) (show (b2i (outB (nI k) 0 3) : Int32) = 0 from (congrArg b2i (out_nf (n := k) (a := 0) (b := 3) (by omega) hk (by decide))))) ?_
  refine lv_if_eq (tgt := 22) hx hb dX5_ahead_17 (by decide) (fun c_17 => ?_) (fun c_17 => absurd c_17 (by decide))
  refine lv_aload_n hx hb dX5_ahead_22 rfl (lv_at hl 0 rfl) ?_
  refine g_cV (As := []) (n := 0) (rest := []) (wc := [(ob, .inr (5, [z0, .ref pl, .ref h, .ref kh, z4, z5, z6, z7, z8, z9, z10])), (h, .inr (4, [.ref hs, .ref ht, .ref hq, .int (nI (sD S)), .int (sM S), .float (sP S), .int (sI S), .int (sC S), .int (sA S), .int (sR S), .int (nI (sK S))])), (hs, .inl (E 1, 4, .inr (.inr (.inl (sF S))))), (ht, .inl (E 0, 4, .inl (sT S))), (hq, .inl (E 0, 18, .inl (sW S))), (kh, .inr (4, [.ref ks, .ref kt, .ref kq, .int (nI (sD U)), .int (sM U), .float (sP U), .int (sI U), .int (sC U), .int (sA U), .int (sR U), .int (nI (sK U))])), (ks, .inl (E 1, 4, .inr (.inr (.inl (sF U))))), (kt, .inl (E 0, 4, .inl (sT U))), (kq, .inl (E 0, 18, .inl (sW U)))]) (w1 := [(ob, .inr (5, [z0, .ref pl, .ref h, .ref kh, z4, z5, z6, z7, z8, z9, z10])), (h, .inr (4, [.ref hs, .ref ht, .ref hq, .int (nI (sD S)), .int (sM S), .float (sP S), .int (sI S), .int (sC S), .int (sA S), .int (sR S), .int (nI (sK S))])), (hs, .inl (E 1, 4, .inr (.inr (.inl (sF S))))), (ht, .inl (E 0, 4, .inl (sT S))), (hq, .inl (E 0, 18, .inl (sW S))), (kh, .inr (4, [.ref ks, .ref kt, .ref kq, .int (nI (sD S)), .int (sM S), .float (sP S), .int (sI S), .int (sC S), .int (sA S), .int (sR S), .int (nI (sK S))])), (ks, .inl (E 1, 4, .inr (.inr (.inl (sF S))))), (kt, .inl (E 0, 4, .inl (sT S))), (kq, .inl (E 0, 18, .inl (sW S)))]) (bytes := cX5_copyNow) (maxL := 1) (ret := none) hc hw hl.1 (m_X5_copyNow (l := l) (D := D) (E := E) (T := T) ob h hs ht hq kh ks kt kq z0 (.ref pl) z4 z5 z6 z7 z8 z9 z10 S U) gX5_ahead_X5_copyNow rfl (by decide +kernel) (by rw [hR]; exact ⟨Nat.le_of_ble_eq_true rfl, Nat.le_of_ble_eq_true rfl⟩) [0, 7, 8, 9, 10, 11, 12, 13, 14] 0 5 rfl rfl (by decide) rfl [ob, h, hs, ht, hq, kh, ks, kt, kq] rfl rfl rfl rfl (Nat.le_of_ble_eq_true rfl) dX5_ahead_23 ⟨Nat.zero_le _, Nat.zero_le _⟩ (fun H locs hw => ?_)
  have hw : g_W D A s [(ob, .inr (5, [z0, .ref pl, .ref h, .ref kh, z4, z5, z6, z7, z8, z9, z10])), (pl, .inr (1, [.ref fa, .int (nI nf), .int (nI nw), .ref xa, .ref ba, .ref pa, .ref aa, .int (jS J), .int (jN J), .float (jH J)])), (fa, .inl (E 0, 18, .inl fl)), (xa, .inl (E 0, 3, .inl x)), (ba, .inl (E 0, 12, .inl (jB J))), (pa, .inl (E 1, 4, .inr (.inr (.inl (jE J))))), (aa, .inl (E 1, 4, .inr (.inr (.inl (jA J))))), (h, .inr (4, [.ref hs, .ref ht, .ref hq, .int (nI (sD S)), .int (sM S), .float (sP S), .int (sI S), .int (sC S), .int (sA S), .int (sR S), .int (nI (sK S))])), (hs, .inl (E 1, 4, .inr (.inr (.inl (sF S))))), (ht, .inl (E 0, 4, .inl (sT S))), (hq, .inl (E 0, 18, .inl (sW S))), (kh, .inr (4, [.ref ks, .ref kt, .ref kq, .int (nI (sD S)), .int (sM S), .float (sP S), .int (sI S), .int (sC S), .int (sA S), .int (sR S), .int (nI (sK S))])), (ks, .inl (E 1, 4, .inr (.inr (.inl (sF S))))), (kt, .inl (E 0, 4, .inl (sT S))), (kq, .inl (E 0, 18, .inl (sW S)))] H locs := hw
  refine lv_aload_n hx hb dX5_ahead_26 rfl (lv_at hl 0 rfl) ?_
  refine g_get (TT := TX5) hc hw inX5_ahead_X5 0 1 1 rfl rfl (by decide) rfl rfl dX5_ahead_27 ?_
  refine lv_aload_n hx hb dX5_ahead_30 rfl (lv_at hl 0 rfl) ?_
  refine g_get (TT := TX5) hc hw inX5_ahead_X5 0 3 2 rfl rfl (by decide) rfl rfl dX5_ahead_31 ?_
  refine lv_iload_n hx hb dX5_ahead_34 rfl (lv_at hl 1 rfl) ?_
  refine g_cVN (As := [.ref kh, .int (nI n)]) (n := 2) (rest := []) (wc := [(pl, .inr (1, [.ref fa, .int (nI nf), .int (nI nw), .ref xa, .ref ba, .ref pa, .ref aa, .int (jS J), .int (jN J), .float (jH J)])), (fa, .inl (E 0, 18, .inl fl)), (xa, .inl (E 0, 3, .inl x)), (ba, .inl (E 0, 12, .inl (jB J))), (pa, .inl (E 1, 4, .inr (.inr (.inl (jE J))))), (aa, .inl (E 1, 4, .inr (.inr (.inl (jA J))))), (kh, .inr (4, [.ref ks, .ref kt, .ref kq, .int (nI (sD S)), .int (sM S), .float (sP S), .int (sI S), .int (sC S), .int (sA S), .int (sR S), .int (nI (sK S))])), (ks, .inl (E 1, 4, .inr (.inr (.inl (sF S))))), (kt, .inl (E 0, 4, .inl (sT S))), (kq, .inl (E 0, 18, .inl (sW S)))]) (w1 := [(pl, .inr (1, [.ref fa, .int (nI nf), .int (nI nw), .ref xa, .ref ba, .ref pa, .ref aa, .int (jS (jnN nw nf fl x S J n)), .int (jN (jnN nw nf fl x S J n)), .float (jH (jnN nw nf fl x S J n))])), (fa, .inl (E 0, 18, .inl fl)), (xa, .inl (E 0, 3, .inl x)), (ba, .inl (E 0, 12, .inl (jB (jnN nw nf fl x S J n)))), (pa, .inl (E 1, 4, .inr (.inr (.inl (jE (jnN nw nf fl x S J n)))))), (aa, .inl (E 1, 4, .inr (.inr (.inl (jA (jnN nw nf fl x S J n)))))), (kh, .inr (4, [.ref ks, .ref kt, .ref kq, .int (nI (sD (tkN nw nf fl x S n))), .int (sM (tkN nw nf fl x S n)), .float (sP (tkN nw nf fl x S n)), .int (sI (tkN nw nf fl x S n)), .int (sC (tkN nw nf fl x S n)), .int (sA (tkN nw nf fl x S n)), .int (sR (tkN nw nf fl x S n)), .int (nI (sK (tkN nw nf fl x S n)))])), (ks, .inl (E 1, 4, .inr (.inr (.inl (sF (tkN nw nf fl x S n)))))), (kt, .inl (E 0, 4, .inl (sT (tkN nw nf fl x S n)))), (kq, .inl (E 0, 18, .inl (sW (tkN nw nf fl x S n))))]) (bytes := cX1_passMany) (maxL := 4) (ret := none) hc hw hl.1 (m_X1_passMany (l := l) (D := D) (E := E) (T := T) pl fa nf nw xa ba pa aa fl x J kh ks kt kq S B n (by first | assumption | omega | decide) (by omega) (by first | assumption | omega | decide) (by first | assumption | omega | decide)) ggX5_ahead_X1_passMany rfl 57 rfl 35 34 36 rfl rfl rfl (by decide +kernel) (by rw [hR]; exact ⟨Nat.le_of_ble_eq_true rfl, Nat.le_of_ble_eq_true rfl⟩) [1, 2, 3, 4, 5, 6, 11, 12, 13, 14] 1 1 rfl rfl (by decide) rfl [pl, fa, xa, ba, pa, aa, kh, ks, kt, kq] rfl rfl rfl rfl (Nat.le_of_ble_eq_true rfl) dX5_ahead_35 ⟨Nat.zero_le _, Nat.zero_le _⟩ (fun H locs hw => ?_)
  have hw : g_W D A s [(ob, .inr (5, [z0, .ref pl, .ref h, .ref kh, z4, z5, z6, z7, z8, z9, z10])), (pl, .inr (1, [.ref fa, .int (nI nf), .int (nI nw), .ref xa, .ref ba, .ref pa, .ref aa, .int (jS (jnN nw nf fl x S J n)), .int (jN (jnN nw nf fl x S J n)), .float (jH (jnN nw nf fl x S J n))])), (fa, .inl (E 0, 18, .inl fl)), (xa, .inl (E 0, 3, .inl x)), (ba, .inl (E 0, 12, .inl (jB (jnN nw nf fl x S J n)))), (pa, .inl (E 1, 4, .inr (.inr (.inl (jE (jnN nw nf fl x S J n)))))), (aa, .inl (E 1, 4, .inr (.inr (.inl (jA (jnN nw nf fl x S J n)))))), (h, .inr (4, [.ref hs, .ref ht, .ref hq, .int (nI (sD S)), .int (sM S), .float (sP S), .int (sI S), .int (sC S), .int (sA S), .int (sR S), .int (nI (sK S))])), (hs, .inl (E 1, 4, .inr (.inr (.inl (sF S))))), (ht, .inl (E 0, 4, .inl (sT S))), (hq, .inl (E 0, 18, .inl (sW S))), (kh, .inr (4, [.ref ks, .ref kt, .ref kq, .int (nI (sD (tkN nw nf fl x S n))), .int (sM (tkN nw nf fl x S n)), .float (sP (tkN nw nf fl x S n)), .int (sI (tkN nw nf fl x S n)), .int (sC (tkN nw nf fl x S n)), .int (sA (tkN nw nf fl x S n)), .int (sR (tkN nw nf fl x S n)), .int (nI (sK (tkN nw nf fl x S n)))])), (ks, .inl (E 1, 4, .inr (.inr (.inl (sF (tkN nw nf fl x S n)))))), (kt, .inl (E 0, 4, .inl (sT (tkN nw nf fl x S n)))), (kq, .inl (E 0, 18, .inl (sW (tkN nw nf fl x S n))))] H locs := hw
  refine lv_aload_n hx hb dX5_ahead_38 rfl (lv_at hl 0 rfl) ?_
  refine g_get (TT := TX5) hc hw inX5_ahead_X5 0 3 2 rfl rfl (by decide) rfl rfl dX5_ahead_39 ?_
  refine g_getN (TT := TX4) hc hw inX5_ahead_X4 11 0 16 rfl rfl (by decide) rfl rfl dX5_ahead_42 ?_
  refine lv_iload_n hx hb dX5_ahead_45 rfl (lv_at hl 2 rfl) ?_
  refine g_fld hc hw 12 k rfl rfl (by omega) (by decide) dX5_ahead_46 ?_
  refine g_cS (As := [.float ((sF (tkN nw nf fl x S n)) k)]) (n := 1) (rest := []) (wc := []) (w1 := []) (bytes := cX5_bitsOf) (maxL := 4) (ret := (some .int)) hc hw hl.1 (m_X5_bitsOf (l := l) (D := D) (E := E) (T := T) ((sF (tkN nw nf fl x S n)) k) (g_mgW ((hok.tn nw nf fl x n).f k (by omega)) (by decide)) (((hok.tn nw nf fl x n).2.2.2.2.1 k (by omega)).2)) gX5_ahead_X5_bitsOf rfl (by decide +kernel) (by rw [hR]; exact ⟨Nat.le_of_ble_eq_true rfl, Nat.le_of_ble_eq_true rfl⟩) [] (by decide) rfl [] rfl rfl rfl rfl (Nat.le_of_ble_eq_true rfl) dX5_ahead_47 ⟨Nat.zero_le _, Nat.zero_le _⟩ (fun H locs hw => ?_)
  have hw : g_W D A s [(ob, .inr (5, [z0, .ref pl, .ref h, .ref kh, z4, z5, z6, z7, z8, z9, z10])), (pl, .inr (1, [.ref fa, .int (nI nf), .int (nI nw), .ref xa, .ref ba, .ref pa, .ref aa, .int (jS (jnN nw nf fl x S J n)), .int (jN (jnN nw nf fl x S J n)), .float (jH (jnN nw nf fl x S J n))])), (fa, .inl (E 0, 18, .inl fl)), (xa, .inl (E 0, 3, .inl x)), (ba, .inl (E 0, 12, .inl (jB (jnN nw nf fl x S J n)))), (pa, .inl (E 1, 4, .inr (.inr (.inl (jE (jnN nw nf fl x S J n)))))), (aa, .inl (E 1, 4, .inr (.inr (.inl (jA (jnN nw nf fl x S J n)))))), (h, .inr (4, [.ref hs, .ref ht, .ref hq, .int (nI (sD S)), .int (sM S), .float (sP S), .int (sI S), .int (sC S), .int (sA S), .int (sR S), .int (nI (sK S))])), (hs, .inl (E 1, 4, .inr (.inr (.inl (sF S))))), (ht, .inl (E 0, 4, .inl (sT S))), (hq, .inl (E 0, 18, .inl (sW S))), (kh, .inr (4, [.ref ks, .ref kt, .ref kq, .int (nI (sD (tkN nw nf fl x S n))), .int (sM (tkN nw nf fl x S n)), .float (sP (tkN nw nf fl x S n)), .int (sI (tkN nw nf fl x S n)), .int (sC (tkN nw nf fl x S n)), .int (sA (tkN nw nf fl x S n)), .int (sR (tkN nw nf fl x S n)), .int (nI (sK (tkN nw nf fl x S n)))])), (ks, .inl (E 1, 4, .inr (.inr (.inl (sF (tkN nw nf fl x S n)))))), (kt, .inl (E 0, 4, .inl (sT (tkN nw nf fl x S n)))), (kq, .inl (E 0, 18, .inl (sW (tkN nw nf fl x S n))))] H locs := hw
  exact g_iret hQ hc hw hr rfl rfl dX5_ahead_50

theorem dX5_later_0 : decode cX5_later 0 = .ok (.iload_n 1, 1) := by decide +kernel
theorem dX5_later_1 : decode cX5_later 1 = .ok (.iconst 0, 1) := by decide +kernel
theorem dX5_later_2 : decode cX5_later 2 = .ok (.bipush 99, 2) := by decide +kernel
theorem dX5_later_4 : decode cX5_later 4 = .ok (.invokestatic 59, 3) := by decide +kernel
theorem dX5_later_7 : decode cX5_later 7 = .ok (.ifCond .ne 12, 3) := by decide +kernel
theorem dX5_later_19 : decode cX5_later 19 = .ok (.bipush (-2), 2) := by decide +kernel
theorem dX5_later_21 : decode cX5_later 21 = .ok (.ireturn, 1) := by decide +kernel
set_option maxRecDepth 20000 in
theorem ggX5_later_X5_outside : GoodIn wsX5_later wsX5_outside := goodIn_r _ [6] rfl (by decide +kernel)
set_option maxRecDepth 20000 in
theorem gX5_later_X5_outside : GoodIn wsX5_later (va_wsS RX5 59 yX5_outside wsX5_outside) := goodIn_app (goodIn_of _ (by decide +kernel)) ggX5_later_X5_outside
set_option maxRecDepth 100000 in
set_option maxHeartbeats 4000000 in
theorem m_X5_later_out {l : Launch} {D : va_G} {E : Nat → ClassId} {T : Nat → Nat} (ob : Nat) (z0 : Value) (z1 : Value) (z2 : Value) (z3 : Value) (z4 : Value) (z5 : Value) (z6 : Value) (z7 : Value) (z8 : Value) (z9 : Value) (z10 : Value) (v : Int32) (w : Int32) (ho : outB v 0 99 = true) : g_M l D E T yX5_later wsX5_later 1 22 [.ref ob, .int v, .int w] [(ob, .inr (5, [z0, z1, z2, z3, z4, z5, z6, z7, z8, z9, z10]))] [(ob, .inr (5, [z0, z1, z2, z3, z4, z5, z6, z7, z8, z9, z10]))] (some (.int (-2))) := by
  refine g_M.of (cc := cX5_later) (nL := 3) (ret := (some .int)) (own := RX5) (lv := [(0, .ref ob), (1, .int v), (2, .int w)]) (by decide) rfl rfl (Nat.le_of_ble_eq_true rfl) rfl ?_
  intro p e R s m args below meth c A Q H locs ls hR hQ hc hr hw hl
  have hx := hc.1
  have hb := hc.2.1
  have hts := hc.2.2.2.1
  have hown := hc.2.2.2.2.1
  refine lv_iload_n hx hb dX5_later_0 rfl (lv_at hl 1 rfl) ?_
  refine lv_iconst (v := 0) hx hb dX5_later_1 (by decide) ?_
  refine lv_bipush (v := 99) hx hb dX5_later_2 (by decide) ?_
  refine g_cS (As := [.int v, .int 0, .int 99]) (n := 3) (rest := []) (wc := []) (w1 := []) (bytes := cX5_outside) (maxL := 3) (ret := (some .boolean)) hc hw hl.1 (m_X5_outside (l := l) (D := D) (E := E) (T := T) v 0 99) gX5_later_X5_outside rfl (by decide +kernel) (by rw [hR]; exact ⟨Nat.le_of_ble_eq_true rfl, Nat.le_of_ble_eq_true rfl⟩) [] (by decide) rfl [] rfl rfl rfl rfl (Nat.le_of_ble_eq_true rfl) dX5_later_4 ⟨Nat.zero_le _, Nat.zero_le _⟩ (fun H locs hw => ?_)
  have hw : g_W D A s [(ob, .inr (5, [z0, z1, z2, z3, z4, z5, z6, z7, z8, z9, z10]))] H locs := hw
  refine W.eq (congrArg (fun z => F0 m 7 ls (.int z :: [])) (show (b2i (outB v 0 99) : Int32) = 1 from (congrArg b2i ho))) ?_
  refine lv_if_ne (tgt := 19) hx hb dX5_later_7 (by decide) (fun c_7 => ?_) (fun c_7 => absurd c_7 (by decide))
  refine lv_bipush (v := (-2)) hx hb dX5_later_19 (by decide) ?_
  exact g_iret hQ hc hw hr rfl rfl dX5_later_21

theorem dX5_later_10 : decode cX5_later 10 = .ok (.iload_n 2, 1) := by decide +kernel
theorem dX5_later_11 : decode cX5_later 11 = .ok (.iconst 0, 1) := by decide +kernel
theorem dX5_later_12 : decode cX5_later 12 = .ok (.iconst 4, 1) := by decide +kernel
theorem dX5_later_13 : decode cX5_later 13 = .ok (.invokestatic 59, 3) := by decide +kernel
theorem dX5_later_16 : decode cX5_later 16 = .ok (.ifCond .eq 6, 3) := by decide +kernel
set_option maxRecDepth 100000 in
set_option maxHeartbeats 4000000 in
theorem m_X5_later_what {l : Launch} {D : va_G} {E : Nat → ClassId} {T : Nat → Nat} (ob : Nat) (n : Nat) (z0 : Value) (z1 : Value) (z2 : Value) (z3 : Value) (z4 : Value) (z5 : Value) (z6 : Value) (z7 : Value) (z8 : Value) (z9 : Value) (z10 : Value) (w : Int32) (hn : n ≤ 99) (ho : outB w 0 4 = true) : g_M l D E T yX5_later wsX5_later 1 22 [.ref ob, .int (nI n), .int w] [(ob, .inr (5, [z0, z1, z2, z3, z4, z5, z6, z7, z8, z9, z10]))] [(ob, .inr (5, [z0, z1, z2, z3, z4, z5, z6, z7, z8, z9, z10]))] (some (.int (-2))) := by
  refine g_M.of (cc := cX5_later) (nL := 3) (ret := (some .int)) (own := RX5) (lv := [(0, .ref ob), (1, .int (nI n)), (2, .int w)]) (by decide) rfl rfl (Nat.le_of_ble_eq_true rfl) rfl ?_
  intro p e R s m args below meth c A Q H locs ls hR hQ hc hr hw hl
  have hx := hc.1
  have hb := hc.2.1
  have hts := hc.2.2.2.1
  have hown := hc.2.2.2.2.1
  refine lv_iload_n hx hb dX5_later_0 rfl (lv_at hl 1 rfl) ?_
  refine lv_iconst (v := 0) hx hb dX5_later_1 (by decide) ?_
  refine lv_bipush (v := 99) hx hb dX5_later_2 (by decide) ?_
  refine g_cS (As := [.int (nI n), .int 0, .int 99]) (n := 3) (rest := []) (wc := []) (w1 := []) (bytes := cX5_outside) (maxL := 3) (ret := (some .boolean)) hc hw hl.1 (m_X5_outside (l := l) (D := D) (E := E) (T := T) (nI n) 0 99) gX5_later_X5_outside rfl (by decide +kernel) (by rw [hR]; exact ⟨Nat.le_of_ble_eq_true rfl, Nat.le_of_ble_eq_true rfl⟩) [] (by decide) rfl [] rfl rfl rfl rfl (Nat.le_of_ble_eq_true rfl) dX5_later_4 ⟨Nat.zero_le _, Nat.zero_le _⟩ (fun H locs hw => ?_)
  have hw : g_W D A s [(ob, .inr (5, [z0, z1, z2, z3, z4, z5, z6, z7, z8, z9, z10]))] H locs := hw
  refine W.eq (congrArg (fun z => F0 m 7 ls (.int z :: [])) (show (b2i (outB (nI n) 0 99) : Int32) = 0 from (congrArg b2i (out_nf (n := n) (a := 0) (b := 99) (by omega) hn (by decide))))) ?_
  refine lv_if_ne (tgt := 19) hx hb dX5_later_7 (by decide) (fun c_7 => absurd c_7 (by decide)) (fun c_7 => ?_)
  refine lv_iload_n hx hb dX5_later_10 rfl (lv_at hl 2 rfl) ?_
  refine lv_iconst (v := 0) hx hb dX5_later_11 (by decide) ?_
  refine lv_iconst (v := 4) hx hb dX5_later_12 (by decide) ?_
  refine g_cS (As := [.int w, .int 0, .int 4]) (n := 3) (rest := []) (wc := []) (w1 := []) (bytes := cX5_outside) (maxL := 3) (ret := (some .boolean)) hc hw hl.1 (m_X5_outside (l := l) (D := D) (E := E) (T := T) w 0 4) gX5_later_X5_outside rfl (by decide +kernel) (by rw [hR]; exact ⟨Nat.le_of_ble_eq_true rfl, Nat.le_of_ble_eq_true rfl⟩) [] (by decide) rfl [] rfl rfl rfl rfl (Nat.le_of_ble_eq_true rfl) dX5_later_13 ⟨Nat.zero_le _, Nat.zero_le _⟩ (fun H locs hw => ?_)
  have hw : g_W D A s [(ob, .inr (5, [z0, z1, z2, z3, z4, z5, z6, z7, z8, z9, z10]))] H locs := hw
  refine W.eq (congrArg (fun z => F0 m 16 ls (.int z :: [])) (show (b2i (outB w 0 4) : Int32) = 1 from (congrArg b2i ho))) ?_
  refine lv_if_eq (tgt := 22) hx hb dX5_later_16 (by decide) (fun c_16 => absurd c_16 (by decide)) (fun c_16 => ?_)
  refine lv_bipush (v := (-2)) hx hb dX5_later_19 (by decide) ?_
  exact g_iret hQ hc hw hr rfl rfl dX5_later_21

theorem dX5_later_22 : decode cX5_later 22 = .ok (.aload_n 0, 1) := by decide +kernel
theorem dX5_later_23 : decode cX5_later 23 = .ok (.invokevirtual 187, 3) := by decide +kernel
theorem dX5_later_26 : decode cX5_later 26 = .ok (.aload_n 0, 1) := by decide +kernel
theorem dX5_later_27 : decode cX5_later 27 = .ok (.getfield 19, 3) := by decide +kernel
theorem dX5_later_30 : decode cX5_later 30 = .ok (.aload_n 0, 1) := by decide +kernel
theorem dX5_later_31 : decode cX5_later 31 = .ok (.getfield 30, 3) := by decide +kernel
theorem dX5_later_34 : decode cX5_later 34 = .ok (.iload_n 1, 1) := by decide +kernel
theorem dX5_later_35 : decode cX5_later 35 = .ok (.invokevirtual 130, 3) := by decide +kernel
theorem dX5_later_38 : decode cX5_later 38 = .ok (.iload_n 2, 1) := by decide +kernel
theorem dX5_later_39 : decode cX5_later 39 = .ok (.tableswitch 61 0 3 #[29, 37, 45, 53], 29) := by decide +kernel
theorem dX5_later_68 : decode cX5_later 68 = .ok (.aload_n 0, 1) := by decide +kernel
theorem dX5_later_69 : decode cX5_later 69 = .ok (.getfield 30, 3) := by decide +kernel
theorem dX5_later_72 : decode cX5_later 72 = .ok (.getfield 134, 3) := by decide +kernel
theorem dX5_later_75 : decode cX5_later 75 = .ok (.ireturn, 1) := by decide +kernel
theorem dX5_later_76 : decode cX5_later 76 = .ok (.aload_n 0, 1) := by decide +kernel
theorem dX5_later_77 : decode cX5_later 77 = .ok (.getfield 30, 3) := by decide +kernel
theorem dX5_later_80 : decode cX5_later 80 = .ok (.getfield 190, 3) := by decide +kernel
theorem dX5_later_83 : decode cX5_later 83 = .ok (.ireturn, 1) := by decide +kernel
theorem dX5_later_84 : decode cX5_later 84 = .ok (.aload_n 0, 1) := by decide +kernel
theorem dX5_later_85 : decode cX5_later 85 = .ok (.getfield 30, 3) := by decide +kernel
theorem dX5_later_88 : decode cX5_later 88 = .ok (.getfield 193, 3) := by decide +kernel
theorem dX5_later_91 : decode cX5_later 91 = .ok (.ireturn, 1) := by decide +kernel
theorem dX5_later_92 : decode cX5_later 92 = .ok (.aload_n 0, 1) := by decide +kernel
theorem dX5_later_93 : decode cX5_later 93 = .ok (.getfield 30, 3) := by decide +kernel
theorem dX5_later_96 : decode cX5_later 96 = .ok (.getfield 196, 3) := by decide +kernel
theorem dX5_later_99 : decode cX5_later 99 = .ok (.ireturn, 1) := by decide +kernel
theorem dX5_later_100 : decode cX5_later 100 = .ok (.aload_n 0, 1) := by decide +kernel
theorem dX5_later_101 : decode cX5_later 101 = .ok (.getfield 30, 3) := by decide +kernel
theorem dX5_later_104 : decode cX5_later 104 = .ok (.getfield 147, 3) := by decide +kernel
theorem dX5_later_107 : decode cX5_later 107 = .ok (.ireturn, 1) := by decide +kernel
set_option maxRecDepth 20000 in
theorem ggX5_later_X5_copyNow : GoodIn wsX5_later wsX5_copyNow := goodIn_r _ [10, 2, 11, 12, 13, 14, 15, 16, 17, 18, 19, 20, 21, 22, 23, 24, 25, 26, 27, 28, 29, 30, 111, 112, 113, 114, 115, 116, 117, 118, 119, 120, 121, 122, 123, 124, 125, 126, 127, 128, 129, 130, 131, 132] rfl (by decide +kernel)
set_option maxRecDepth 20000 in
theorem gX5_later_X5_copyNow : GoodIn wsX5_later (wsV RX5 187 RX5 yX5_copyNow wsX5_copyNow) := goodIn_app (goodIn_of _ (by decide +kernel)) ggX5_later_X5_copyNow
set_option maxRecDepth 20000 in
theorem ggX5_later_X1_passMany : GoodIn wsX5_later wsX1_passMany := goodIn_r _ [34, 35, 36, 37, 32, 38, 39, 40, 41, 42, 43, 44, 45, 13, 46, 47, 23, 48, 49, 50, 51, 52, 53, 54, 55, 56, 57, 58, 59, 60, 61, 62, 63, 64, 65, 66, 67, 68, 69, 70, 71, 72, 73, 74, 75, 76, 77, 78, 79, 80, 81, 5, 82, 83, 84, 85, 86, 87, 88, 89, 90, 91, 92, 93, 94, 95, 96, 97, 98, 99, 100, 101, 102, 103, 16, 104, 105, 106, 107, 108, 109, 110, 122, 123, 124, 125, 126, 127, 128, 129, 130, 131, 132, 133, 134, 135, 136, 137, 138, 139, 140, 141, 142] rfl (by decide +kernel)
theorem inX5_later_X4 : ∀ w ∈ u_ws RX4 TX4 11, w ∈ wsX5_later := fun w h => List.mem_cons_of_mem _ (List.mem_append_left _ (List.mem_append_right _ h))
theorem inX5_later_X5 : ∀ w ∈ u_ws RX5 TX5 11, w ∈ wsX5_later := fun w h => List.mem_cons_of_mem _ (List.mem_append_left _ (List.mem_append_left _ (List.mem_append_right _ h)))
set_option maxRecDepth 100000 in
set_option maxHeartbeats 4000000 in
theorem m_X5_later {l : Launch} {D : va_G} {E : Nat → ClassId} {T : Nat → Nat} (pl : Nat) (fa : Nat) (nf : Nat) (nw : Nat) (xa : Nat) (ba : Nat) (pa : Nat) (aa : Nat) (fl : Nat → Int32) (x : Nat → Int32) (J : PJ) (h : Nat) (hs : Nat) (ht : Nat) (hq : Nat) (S : TS) (B : Nat) (ob : Nat) (kh : Nat) (ks : Nat) (kt : Nat) (kq : Nat) (z0 : Value) (z4 : Value) (z5 : Value) (z6 : Value) (z7 : Value) (z8 : Value) (z9 : Value) (z10 : Value) (U : TS) (n : Nat) (k : Nat) (hok : OkS B S) (hB : B + 300 < 2 ^ 31) (hnw : nw ≤ 6) (hnf : nf ≤ 6) (hn : n ≤ 99) (hk : k ≤ 4) : g_M l D E T yX5_later wsX5_later 5 123 [.ref ob, .int (nI n), .int (nI k)] [(ob, .inr (5, [z0, .ref pl, .ref h, .ref kh, z4, z5, z6, z7, z8, z9, z10])), (pl, .inr (1, [.ref fa, .int (nI nf), .int (nI nw), .ref xa, .ref ba, .ref pa, .ref aa, .int (jS J), .int (jN J), .float (jH J)])), (fa, .inl (E 0, 18, .inl fl)), (xa, .inl (E 0, 3, .inl x)), (ba, .inl (E 0, 12, .inl (jB J))), (pa, .inl (E 1, 4, .inr (.inr (.inl (jE J))))), (aa, .inl (E 1, 4, .inr (.inr (.inl (jA J))))), (h, .inr (4, [.ref hs, .ref ht, .ref hq, .int (nI (sD S)), .int (sM S), .float (sP S), .int (sI S), .int (sC S), .int (sA S), .int (sR S), .int (nI (sK S))])), (hs, .inl (E 1, 4, .inr (.inr (.inl (sF S))))), (ht, .inl (E 0, 4, .inl (sT S))), (hq, .inl (E 0, 18, .inl (sW S))), (kh, .inr (4, [.ref ks, .ref kt, .ref kq, .int (nI (sD U)), .int (sM U), .float (sP U), .int (sI U), .int (sC U), .int (sA U), .int (sR U), .int (nI (sK U))])), (ks, .inl (E 1, 4, .inr (.inr (.inl (sF U))))), (kt, .inl (E 0, 4, .inl (sT U))), (kq, .inl (E 0, 18, .inl (sW U)))] [(ob, .inr (5, [z0, .ref pl, .ref h, .ref kh, z4, z5, z6, z7, z8, z9, z10])), (pl, .inr (1, [.ref fa, .int (nI nf), .int (nI nw), .ref xa, .ref ba, .ref pa, .ref aa, .int (jS (jnN nw nf fl x S J n)), .int (jN (jnN nw nf fl x S J n)), .float (jH (jnN nw nf fl x S J n))])), (fa, .inl (E 0, 18, .inl fl)), (xa, .inl (E 0, 3, .inl x)), (ba, .inl (E 0, 12, .inl (jB (jnN nw nf fl x S J n)))), (pa, .inl (E 1, 4, .inr (.inr (.inl (jE (jnN nw nf fl x S J n)))))), (aa, .inl (E 1, 4, .inr (.inr (.inl (jA (jnN nw nf fl x S J n)))))), (h, .inr (4, [.ref hs, .ref ht, .ref hq, .int (nI (sD S)), .int (sM S), .float (sP S), .int (sI S), .int (sC S), .int (sA S), .int (sR S), .int (nI (sK S))])), (hs, .inl (E 1, 4, .inr (.inr (.inl (sF S))))), (ht, .inl (E 0, 4, .inl (sT S))), (hq, .inl (E 0, 18, .inl (sW S))), (kh, .inr (4, [.ref ks, .ref kt, .ref kq, .int (nI (sD (tkN nw nf fl x S n))), .int (sM (tkN nw nf fl x S n)), .float (sP (tkN nw nf fl x S n)), .int (sI (tkN nw nf fl x S n)), .int (sC (tkN nw nf fl x S n)), .int (sA (tkN nw nf fl x S n)), .int (sR (tkN nw nf fl x S n)), .int (nI (sK (tkN nw nf fl x S n)))])), (ks, .inl (E 1, 4, .inr (.inr (.inl (sF (tkN nw nf fl x S n)))))), (kt, .inl (E 0, 4, .inl (sT (tkN nw nf fl x S n)))), (kq, .inl (E 0, 18, .inl (sW (tkN nw nf fl x S n))))] (some (.int (laF (tkN nw nf fl x S n) k))) := by
  refine g_M.of (cc := cX5_later) (nL := 3) (ret := (some .int)) (own := RX5) (lv := [(0, .ref ob), (1, .int (nI n)), (2, .int (nI k))]) (by decide) rfl rfl (Nat.le_of_ble_eq_true rfl) rfl ?_
  intro p e R s m args below meth c A Q H locs ls hR hQ hc hr hw hl
  have hx := hc.1
  have hb := hc.2.1
  have hts := hc.2.2.2.1
  have hown := hc.2.2.2.2.1
  refine lv_iload_n hx hb dX5_later_0 rfl (lv_at hl 1 rfl) ?_
  refine lv_iconst (v := 0) hx hb dX5_later_1 (by decide) ?_
  refine lv_bipush (v := 99) hx hb dX5_later_2 (by decide) ?_
  refine g_cS (As := [.int (nI n), .int 0, .int 99]) (n := 3) (rest := []) (wc := []) (w1 := []) (bytes := cX5_outside) (maxL := 3) (ret := (some .boolean)) hc hw hl.1 (m_X5_outside (l := l) (D := D) (E := E) (T := T) (nI n) 0 99) gX5_later_X5_outside rfl (by decide +kernel) (by rw [hR]; exact ⟨Nat.le_of_ble_eq_true rfl, Nat.le_of_ble_eq_true rfl⟩) [] (by decide) rfl [] rfl rfl rfl rfl (Nat.le_of_ble_eq_true rfl) dX5_later_4 ⟨Nat.zero_le _, Nat.zero_le _⟩ (fun H locs hw => ?_)
  have hw : g_W D A s [(ob, .inr (5, [z0, .ref pl, .ref h, .ref kh, z4, z5, z6, z7, z8, z9, z10])), (pl, .inr (1, [.ref fa, .int (nI nf), .int (nI nw), .ref xa, .ref ba, .ref pa, .ref aa, .int (jS J), .int (jN J), .float (jH J)])), (fa, .inl (E 0, 18, .inl fl)), (xa, .inl (E 0, 3, .inl x)), (ba, .inl (E 0, 12, .inl (jB J))), (pa, .inl (E 1, 4, .inr (.inr (.inl (jE J))))), (aa, .inl (E 1, 4, .inr (.inr (.inl (jA J))))), (h, .inr (4, [.ref hs, .ref ht, .ref hq, .int (nI (sD S)), .int (sM S), .float (sP S), .int (sI S), .int (sC S), .int (sA S), .int (sR S), .int (nI (sK S))])), (hs, .inl (E 1, 4, .inr (.inr (.inl (sF S))))), (ht, .inl (E 0, 4, .inl (sT S))), (hq, .inl (E 0, 18, .inl (sW S))), (kh, .inr (4, [.ref ks, .ref kt, .ref kq, .int (nI (sD U)), .int (sM U), .float (sP U), .int (sI U), .int (sC U), .int (sA U), .int (sR U), .int (nI (sK U))])), (ks, .inl (E 1, 4, .inr (.inr (.inl (sF U))))), (kt, .inl (E 0, 4, .inl (sT U))), (kq, .inl (E 0, 18, .inl (sW U)))] H locs := hw
  refine W.eq (congrArg (fun z => F0 m 7 ls (.int z :: [])) (show (b2i (outB (nI n) 0 99) : Int32) = 0 from (congrArg b2i (out_nf (n := n) (a := 0) (b := 99) (by omega) hn (by decide))))) ?_
  refine lv_if_ne (tgt := 19) hx hb dX5_later_7 (by decide) (fun c_7 => absurd c_7 (by decide)) (fun c_7 => ?_)
  refine lv_iload_n hx hb dX5_later_10 rfl (lv_at hl 2 rfl) ?_
  refine lv_iconst (v := 0) hx hb dX5_later_11 (by decide) ?_
  refine lv_iconst (v := 4) hx hb dX5_later_12 (by decide) ?_
  refine g_cS (As := [.int (nI k), .int 0, .int 4]) (n := 3) (rest := []) (wc := []) (w1 := []) (bytes := cX5_outside) (maxL := 3) (ret := (some .boolean)) hc hw hl.1 (m_X5_outside (l := l) (D := D) (E := E) (T := T) (nI k) 0 4) gX5_later_X5_outside rfl (by decide +kernel) (by rw [hR]; exact ⟨Nat.le_of_ble_eq_true rfl, Nat.le_of_ble_eq_true rfl⟩) [] (by decide) rfl [] rfl rfl rfl rfl (Nat.le_of_ble_eq_true rfl) dX5_later_13 ⟨Nat.zero_le _, Nat.zero_le _⟩ (fun H locs hw => ?_)
  have hw : g_W D A s [(ob, .inr (5, [z0, .ref pl, .ref h, .ref kh, z4, z5, z6, z7, z8, z9, z10])), (pl, .inr (1, [.ref fa, .int (nI nf), .int (nI nw), .ref xa, .ref ba, .ref pa, .ref aa, .int (jS J), .int (jN J), .float (jH J)])), (fa, .inl (E 0, 18, .inl fl)), (xa, .inl (E 0, 3, .inl x)), (ba, .inl (E 0, 12, .inl (jB J))), (pa, .inl (E 1, 4, .inr (.inr (.inl (jE J))))), (aa, .inl (E 1, 4, .inr (.inr (.inl (jA J))))), (h, .inr (4, [.ref hs, .ref ht, .ref hq, .int (nI (sD S)), .int (sM S), .float (sP S), .int (sI S), .int (sC S), .int (sA S), .int (sR S), .int (nI (sK S))])), (hs, .inl (E 1, 4, .inr (.inr (.inl (sF S))))), (ht, .inl (E 0, 4, .inl (sT S))), (hq, .inl (E 0, 18, .inl (sW S))), (kh, .inr (4, [.ref ks, .ref kt, .ref kq, .int (nI (sD U)), .int (sM U), .float (sP U), .int (sI U), .int (sC U), .int (sA U), .int (sR U), .int (nI (sK U))])), (ks, .inl (E 1, 4, .inr (.inr (.inl (sF U))))), (kt, .inl (E 0, 4, .inl (sT U))), (kq, .inl (E 0, 18, .inl (sW U)))] H locs := hw
  refine W.eq (congrArg (fun z => F0 m 16 ls (.int z :: [])) (show (b2i (outB (nI k) 0 4) : Int32) = 0 from (congrArg b2i (out_nf (n := k) (a := 0) (b := 4) (by omega) hk (by decide))))) ?_
  refine lv_if_eq (tgt := 22) hx hb dX5_later_16 (by decide) (fun c_16 => ?_) (fun c_16 => absurd c_16 (by decide))
  refine lv_aload_n hx hb dX5_later_22 rfl (lv_at hl 0 rfl) ?_
  refine g_cV (As := []) (n := 0) (rest := []) (wc := [(ob, .inr (5, [z0, .ref pl, .ref h, .ref kh, z4, z5, z6, z7, z8, z9, z10])), (h, .inr (4, [.ref hs, .ref ht, .ref hq, .int (nI (sD S)), .int (sM S), .float (sP S), .int (sI S), .int (sC S), .int (sA S), .int (sR S), .int (nI (sK S))])), (hs, .inl (E 1, 4, .inr (.inr (.inl (sF S))))), (ht, .inl (E 0, 4, .inl (sT S))), (hq, .inl (E 0, 18, .inl (sW S))), (kh, .inr (4, [.ref ks, .ref kt, .ref kq, .int (nI (sD U)), .int (sM U), .float (sP U), .int (sI U), .int (sC U), .int (sA U), .int (sR U), .int (nI (sK U))])), (ks, .inl (E 1, 4, .inr (.inr (.inl (sF U))))), (kt, .inl (E 0, 4, .inl (sT U))), (kq, .inl (E 0, 18, .inl (sW U)))]) (w1 := [(ob, .inr (5, [z0, .ref pl, .ref h, .ref kh, z4, z5, z6, z7, z8, z9, z10])), (h, .inr (4, [.ref hs, .ref ht, .ref hq, .int (nI (sD S)), .int (sM S), .float (sP S), .int (sI S), .int (sC S), .int (sA S), .int (sR S), .int (nI (sK S))])), (hs, .inl (E 1, 4, .inr (.inr (.inl (sF S))))), (ht, .inl (E 0, 4, .inl (sT S))), (hq, .inl (E 0, 18, .inl (sW S))), (kh, .inr (4, [.ref ks, .ref kt, .ref kq, .int (nI (sD S)), .int (sM S), .float (sP S), .int (sI S), .int (sC S), .int (sA S), .int (sR S), .int (nI (sK S))])), (ks, .inl (E 1, 4, .inr (.inr (.inl (sF S))))), (kt, .inl (E 0, 4, .inl (sT S))), (kq, .inl (E 0, 18, .inl (sW S)))]) (bytes := cX5_copyNow) (maxL := 1) (ret := none) hc hw hl.1 (m_X5_copyNow (l := l) (D := D) (E := E) (T := T) ob h hs ht hq kh ks kt kq z0 (.ref pl) z4 z5 z6 z7 z8 z9 z10 S U) gX5_later_X5_copyNow rfl (by decide +kernel) (by rw [hR]; exact ⟨Nat.le_of_ble_eq_true rfl, Nat.le_of_ble_eq_true rfl⟩) [0, 7, 8, 9, 10, 11, 12, 13, 14] 0 5 rfl rfl (by decide) rfl [ob, h, hs, ht, hq, kh, ks, kt, kq] rfl rfl rfl rfl (Nat.le_of_ble_eq_true rfl) dX5_later_23 ⟨Nat.zero_le _, Nat.zero_le _⟩ (fun H locs hw => ?_)
  have hw : g_W D A s [(ob, .inr (5, [z0, .ref pl, .ref h, .ref kh, z4, z5, z6, z7, z8, z9, z10])), (pl, .inr (1, [.ref fa, .int (nI nf), .int (nI nw), .ref xa, .ref ba, .ref pa, .ref aa, .int (jS J), .int (jN J), .float (jH J)])), (fa, .inl (E 0, 18, .inl fl)), (xa, .inl (E 0, 3, .inl x)), (ba, .inl (E 0, 12, .inl (jB J))), (pa, .inl (E 1, 4, .inr (.inr (.inl (jE J))))), (aa, .inl (E 1, 4, .inr (.inr (.inl (jA J))))), (h, .inr (4, [.ref hs, .ref ht, .ref hq, .int (nI (sD S)), .int (sM S), .float (sP S), .int (sI S), .int (sC S), .int (sA S), .int (sR S), .int (nI (sK S))])), (hs, .inl (E 1, 4, .inr (.inr (.inl (sF S))))), (ht, .inl (E 0, 4, .inl (sT S))), (hq, .inl (E 0, 18, .inl (sW S))), (kh, .inr (4, [.ref ks, .ref kt, .ref kq, .int (nI (sD S)), .int (sM S), .float (sP S), .int (sI S), .int (sC S), .int (sA S), .int (sR S), .int (nI (sK S))])), (ks, .inl (E 1, 4, .inr (.inr (.inl (sF S))))), (kt, .inl (E 0, 4, .inl (sT S))), (kq, .inl (E 0, 18, .inl (sW S)))] H locs := hw
  refine lv_aload_n hx hb dX5_later_26 rfl (lv_at hl 0 rfl) ?_
  refine g_get (TT := TX5) hc hw inX5_later_X5 0 1 1 rfl rfl (by decide) rfl rfl dX5_later_27 ?_
  refine lv_aload_n hx hb dX5_later_30 rfl (lv_at hl 0 rfl) ?_
  refine g_get (TT := TX5) hc hw inX5_later_X5 0 3 2 rfl rfl (by decide) rfl rfl dX5_later_31 ?_
  refine lv_iload_n hx hb dX5_later_34 rfl (lv_at hl 1 rfl) ?_
  refine g_cVN (As := [.ref kh, .int (nI n)]) (n := 2) (rest := []) (wc := [(pl, .inr (1, [.ref fa, .int (nI nf), .int (nI nw), .ref xa, .ref ba, .ref pa, .ref aa, .int (jS J), .int (jN J), .float (jH J)])), (fa, .inl (E 0, 18, .inl fl)), (xa, .inl (E 0, 3, .inl x)), (ba, .inl (E 0, 12, .inl (jB J))), (pa, .inl (E 1, 4, .inr (.inr (.inl (jE J))))), (aa, .inl (E 1, 4, .inr (.inr (.inl (jA J))))), (kh, .inr (4, [.ref ks, .ref kt, .ref kq, .int (nI (sD S)), .int (sM S), .float (sP S), .int (sI S), .int (sC S), .int (sA S), .int (sR S), .int (nI (sK S))])), (ks, .inl (E 1, 4, .inr (.inr (.inl (sF S))))), (kt, .inl (E 0, 4, .inl (sT S))), (kq, .inl (E 0, 18, .inl (sW S)))]) (w1 := [(pl, .inr (1, [.ref fa, .int (nI nf), .int (nI nw), .ref xa, .ref ba, .ref pa, .ref aa, .int (jS (jnN nw nf fl x S J n)), .int (jN (jnN nw nf fl x S J n)), .float (jH (jnN nw nf fl x S J n))])), (fa, .inl (E 0, 18, .inl fl)), (xa, .inl (E 0, 3, .inl x)), (ba, .inl (E 0, 12, .inl (jB (jnN nw nf fl x S J n)))), (pa, .inl (E 1, 4, .inr (.inr (.inl (jE (jnN nw nf fl x S J n)))))), (aa, .inl (E 1, 4, .inr (.inr (.inl (jA (jnN nw nf fl x S J n)))))), (kh, .inr (4, [.ref ks, .ref kt, .ref kq, .int (nI (sD (tkN nw nf fl x S n))), .int (sM (tkN nw nf fl x S n)), .float (sP (tkN nw nf fl x S n)), .int (sI (tkN nw nf fl x S n)), .int (sC (tkN nw nf fl x S n)), .int (sA (tkN nw nf fl x S n)), .int (sR (tkN nw nf fl x S n)), .int (nI (sK (tkN nw nf fl x S n)))])), (ks, .inl (E 1, 4, .inr (.inr (.inl (sF (tkN nw nf fl x S n)))))), (kt, .inl (E 0, 4, .inl (sT (tkN nw nf fl x S n)))), (kq, .inl (E 0, 18, .inl (sW (tkN nw nf fl x S n))))]) (bytes := cX1_passMany) (maxL := 4) (ret := none) hc hw hl.1 (m_X1_passMany (l := l) (D := D) (E := E) (T := T) pl fa nf nw xa ba pa aa fl x J kh ks kt kq S B n (by first | assumption | omega | decide) (by omega) (by first | assumption | omega | decide) (by first | assumption | omega | decide)) ggX5_later_X1_passMany rfl 57 rfl 32 31 33 rfl rfl rfl (by decide +kernel) (by rw [hR]; exact ⟨Nat.le_of_ble_eq_true rfl, Nat.le_of_ble_eq_true rfl⟩) [1, 2, 3, 4, 5, 6, 11, 12, 13, 14] 1 1 rfl rfl (by decide) rfl [pl, fa, xa, ba, pa, aa, kh, ks, kt, kq] rfl rfl rfl rfl (Nat.le_of_ble_eq_true rfl) dX5_later_35 ⟨Nat.zero_le _, Nat.zero_le _⟩ (fun H locs hw => ?_)
  have hw : g_W D A s [(ob, .inr (5, [z0, .ref pl, .ref h, .ref kh, z4, z5, z6, z7, z8, z9, z10])), (pl, .inr (1, [.ref fa, .int (nI nf), .int (nI nw), .ref xa, .ref ba, .ref pa, .ref aa, .int (jS (jnN nw nf fl x S J n)), .int (jN (jnN nw nf fl x S J n)), .float (jH (jnN nw nf fl x S J n))])), (fa, .inl (E 0, 18, .inl fl)), (xa, .inl (E 0, 3, .inl x)), (ba, .inl (E 0, 12, .inl (jB (jnN nw nf fl x S J n)))), (pa, .inl (E 1, 4, .inr (.inr (.inl (jE (jnN nw nf fl x S J n)))))), (aa, .inl (E 1, 4, .inr (.inr (.inl (jA (jnN nw nf fl x S J n)))))), (h, .inr (4, [.ref hs, .ref ht, .ref hq, .int (nI (sD S)), .int (sM S), .float (sP S), .int (sI S), .int (sC S), .int (sA S), .int (sR S), .int (nI (sK S))])), (hs, .inl (E 1, 4, .inr (.inr (.inl (sF S))))), (ht, .inl (E 0, 4, .inl (sT S))), (hq, .inl (E 0, 18, .inl (sW S))), (kh, .inr (4, [.ref ks, .ref kt, .ref kq, .int (nI (sD (tkN nw nf fl x S n))), .int (sM (tkN nw nf fl x S n)), .float (sP (tkN nw nf fl x S n)), .int (sI (tkN nw nf fl x S n)), .int (sC (tkN nw nf fl x S n)), .int (sA (tkN nw nf fl x S n)), .int (sR (tkN nw nf fl x S n)), .int (nI (sK (tkN nw nf fl x S n)))])), (ks, .inl (E 1, 4, .inr (.inr (.inl (sF (tkN nw nf fl x S n)))))), (kt, .inl (E 0, 4, .inl (sT (tkN nw nf fl x S n)))), (kq, .inl (E 0, 18, .inl (sW (tkN nw nf fl x S n))))] H locs := hw
  refine lv_iload_n hx hb dX5_later_38 rfl (lv_at hl 2 rfl) ?_
  by_cases y_0 : (nI k) = 0
  · skip
    refine lv_tableIn (off := 29) (tgt := 68) hx hb dX5_later_39 (by rw [y_0]; decide) (by rw [y_0]; decide) (by rw [y_0]; rfl) (by decide) ?_
    have m_0 : k = 0 := nf_eqT rfl rfl (by omega) (by decide) y_0
    refine lv_aload_n hx hb dX5_later_68 rfl (lv_at hl 0 rfl) ?_
    refine g_get (TT := TX5) hc hw inX5_later_X5 0 3 2 rfl rfl (by decide) rfl rfl dX5_later_69 ?_
    refine g_getN (TT := TX4) hc hw inX5_later_X4 11 4 28 rfl rfl (by decide) rfl rfl dX5_later_72 ?_
    exact g_iret hQ hc hw hr (by exact congrArg (fun z => some (Value.int z)) (by unfold laF; simp only [if_pos m_0])) rfl dX5_later_75
  have m_0 : ¬ k = 0 := nf_eqF rfl rfl (by omega) (by decide) y_0
  by_cases y_1 : (nI k) = 1
  · skip
    refine lv_tableIn (off := 37) (tgt := 76) hx hb dX5_later_39 (by rw [y_1]; decide) (by rw [y_1]; decide) (by rw [y_1]; rfl) (by decide) ?_
    have m_1 : k = 1 := nf_eqT rfl rfl (by omega) (by decide) y_1
    refine lv_aload_n hx hb dX5_later_76 rfl (lv_at hl 0 rfl) ?_
    refine g_get (TT := TX5) hc hw inX5_later_X5 0 3 2 rfl rfl (by decide) rfl rfl dX5_later_77 ?_
    refine g_getN (TT := TX4) hc hw inX5_later_X4 11 6 33 rfl rfl (by decide) rfl rfl dX5_later_80 ?_
    exact g_iret hQ hc hw hr (by exact congrArg (fun z => some (Value.int z)) (by unfold laF; simp only [if_neg m_0, if_pos m_1])) rfl dX5_later_83
  have m_1 : ¬ k = 1 := nf_eqF rfl rfl (by omega) (by decide) y_1
  by_cases y_2 : (nI k) = 2
  · skip
    refine lv_tableIn (off := 45) (tgt := 84) hx hb dX5_later_39 (by rw [y_2]; decide) (by rw [y_2]; decide) (by rw [y_2]; rfl) (by decide) ?_
    have m_2 : k = 2 := nf_eqT rfl rfl (by omega) (by decide) y_2
    refine lv_aload_n hx hb dX5_later_84 rfl (lv_at hl 0 rfl) ?_
    refine g_get (TT := TX5) hc hw inX5_later_X5 0 3 2 rfl rfl (by decide) rfl rfl dX5_later_85 ?_
    refine g_getN (TT := TX4) hc hw inX5_later_X4 11 7 35 rfl rfl (by decide) rfl rfl dX5_later_88 ?_
    exact g_iret hQ hc hw hr (by exact congrArg (fun z => some (Value.int z)) (by unfold laF; simp only [if_neg m_0, if_neg m_1, if_pos m_2])) rfl dX5_later_91
  have m_2 : ¬ k = 2 := nf_eqF rfl rfl (by omega) (by decide) y_2
  by_cases y_3 : (nI k) = 3
  · skip
    refine lv_tableIn (off := 53) (tgt := 92) hx hb dX5_later_39 (by rw [y_3]; decide) (by rw [y_3]; decide) (by rw [y_3]; rfl) (by decide) ?_
    have m_3 : k = 3 := nf_eqT rfl rfl (by omega) (by decide) y_3
    refine lv_aload_n hx hb dX5_later_92 rfl (lv_at hl 0 rfl) ?_
    refine g_get (TT := TX5) hc hw inX5_later_X5 0 3 2 rfl rfl (by decide) rfl rfl dX5_later_93 ?_
    refine g_getN (TT := TX4) hc hw inX5_later_X4 11 8 37 rfl rfl (by decide) rfl rfl dX5_later_96 ?_
    exact g_iret hQ hc hw hr (by exact congrArg (fun z => some (Value.int z)) (by unfold laF; simp only [if_neg m_0, if_neg m_1, if_neg m_2, if_pos m_3])) rfl dX5_later_99
  have m_3 : ¬ k = 3 := nf_eqF rfl rfl (by omega) (by decide) y_3
  have z_0 := lv_neT (a := 0) y_0 (by decide)
  have z_1 := lv_neT (a := 1) y_1 (by decide)
  have z_2 := lv_neT (a := 2) y_2 (by decide)
  have z_3 := lv_neT (a := 3) y_3 (by decide)
  refine lv_tableOut (tgt := 100) hx hb dX5_later_39 (by omega) (by decide) ?_
  refine lv_aload_n hx hb dX5_later_100 rfl (lv_at hl 0 rfl) ?_
  refine g_get (TT := TX5) hc hw inX5_later_X5 0 3 2 rfl rfl (by decide) rfl rfl dX5_later_101 ?_
  refine g_getN (TT := TX4) hc hw inX5_later_X4 11 9 39 rfl rfl (by decide) rfl rfl dX5_later_104 ?_
  exact g_iret hQ hc hw hr (by exact congrArg (fun z => some (Value.int z)) (by unfold laF; simp only [if_neg m_0, if_neg m_1, if_neg m_2, if_neg m_3])) rfl dX5_later_107

theorem dX5_spun_0 : decode cX5_spun 0 = .ok (.aload_n 0, 1) := by decide +kernel
theorem dX5_spun_1 : decode cX5_spun 1 = .ok (.invokevirtual 187, 3) := by decide +kernel
theorem dX5_spun_4 : decode cX5_spun 4 = .ok (.iconst 0, 1) := by decide +kernel
theorem dX5_spun_5 : decode cX5_spun 5 = .ok (.istore_n 1, 1) := by decide +kernel
theorem dX5_spun_6 : decode cX5_spun 6 = .ok (.iload_n 1, 1) := by decide +kernel
theorem dX5_spun_7 : decode cX5_spun 7 = .ok (.bipush 60, 2) := by decide +kernel
theorem dX5_spun_9 : decode cX5_spun 9 = .ok (.if_icmp .gt 33, 3) := by decide +kernel
theorem dX5_spun_12 : decode cX5_spun 12 = .ok (.aload_n 0, 1) := by decide +kernel
theorem dX5_spun_13 : decode cX5_spun 13 = .ok (.getfield 30, 3) := by decide +kernel
theorem dX5_spun_16 : decode cX5_spun 16 = .ok (.getfield 134, 3) := by decide +kernel
theorem dX5_spun_19 : decode cX5_spun 19 = .ok (.iconst 1, 1) := by decide +kernel
theorem dX5_spun_20 : decode cX5_spun 20 = .ok (.if_icmp .ne 5, 3) := by decide +kernel
theorem dX5_spun_23 : decode cX5_spun 23 = .ok (.iload_n 1, 1) := by decide +kernel
theorem dX5_spun_24 : decode cX5_spun 24 = .ok (.ireturn, 1) := by decide +kernel
theorem dX5_spun_25 : decode cX5_spun 25 = .ok (.aload_n 0, 1) := by decide +kernel
theorem dX5_spun_26 : decode cX5_spun 26 = .ok (.getfield 19, 3) := by decide +kernel
theorem dX5_spun_29 : decode cX5_spun 29 = .ok (.aload_n 0, 1) := by decide +kernel
theorem dX5_spun_30 : decode cX5_spun 30 = .ok (.getfield 30, 3) := by decide +kernel
theorem dX5_spun_33 : decode cX5_spun 33 = .ok (.invokevirtual 199, 3) := by decide +kernel
theorem dX5_spun_36 : decode cX5_spun 36 = .ok (.iinc 1 1, 3) := by decide +kernel
theorem dX5_spun_39 : decode cX5_spun 39 = .ok (.goto (-33), 3) := by decide +kernel
theorem dX5_spun_42 : decode cX5_spun 42 = .ok (.bipush (-9), 2) := by decide +kernel
theorem dX5_spun_44 : decode cX5_spun 44 = .ok (.ireturn, 1) := by decide +kernel
set_option maxRecDepth 20000 in
theorem ggX5_spun_X5_copyNow : GoodIn wsX5_spun wsX5_copyNow := goodIn_r _ [7, 1, 8, 9, 10, 11, 12, 13, 14, 15, 16, 17, 18, 19, 20, 21, 22, 23, 24, 25, 26, 27, 104, 105, 106, 107, 108, 109, 110, 111, 112, 113, 114, 115, 116, 117, 118, 119, 120, 121, 122, 123, 124, 125] rfl (by decide +kernel)
set_option maxRecDepth 20000 in
theorem gX5_spun_X5_copyNow : GoodIn wsX5_spun (wsV RX5 187 RX5 yX5_copyNow wsX5_copyNow) := goodIn_app (goodIn_of _ (by decide +kernel)) ggX5_spun_X5_copyNow
set_option maxRecDepth 20000 in
theorem ggX5_spun_X1_pass : GoodIn wsX5_spun wsX1_pass := goodIn_r _ [31, 32, 33, 34, 35, 29, 36, 37, 38, 10, 39, 40, 20, 41, 42, 43, 44, 45, 46, 47, 48, 49, 50, 51, 52, 53, 54, 55, 56, 57, 58, 59, 60, 61, 62, 63, 64, 65, 66, 67, 68, 69, 70, 71, 72, 73, 74, 6, 75, 76, 77, 78, 79, 80, 81, 82, 83, 84, 85, 86, 87, 88, 89, 90, 91, 92, 93, 94, 95, 96, 13, 97, 98, 99, 100, 101, 102, 103, 115, 116, 117, 118, 119, 120, 121, 122, 123, 124, 125, 126, 127, 128, 129, 130, 131, 132, 133, 134, 135] rfl (by decide +kernel)
theorem inX5_spun_X4 : ∀ w ∈ u_ws RX4 TX4 11, w ∈ wsX5_spun := fun w h => List.mem_cons_of_mem _ (List.mem_append_left _ (List.mem_append_right _ h))
theorem inX5_spun_X5 : ∀ w ∈ u_ws RX5 TX5 11, w ∈ wsX5_spun := fun w h => List.mem_cons_of_mem _ (List.mem_append_left _ (List.mem_append_left _ (List.mem_append_right _ h)))
set_option maxRecDepth 100000 in
set_option maxHeartbeats 4000000 in
theorem m_X5_spun {l : Launch} {D : va_G} {E : Nat → ClassId} {T : Nat → Nat} (pl : Nat) (fa : Nat) (nf : Nat) (nw : Nat) (xa : Nat) (ba : Nat) (pa : Nat) (aa : Nat) (fl : Nat → Int32) (x : Nat → Int32) (J : PJ) (h : Nat) (hs : Nat) (ht : Nat) (hq : Nat) (S : TS) (B : Nat) (ob : Nat) (kh : Nat) (ks : Nat) (kt : Nat) (kq : Nat) (z0 : Value) (z4 : Value) (z5 : Value) (z6 : Value) (z7 : Value) (z8 : Value) (z9 : Value) (z10 : Value) (U : TS) (hok : OkS B S) (hB : B + 300 < 2 ^ 31) (hnw : nw ≤ 6) (hnf : nf ≤ 6) : g_ME l D E T yX5_spun wsX5_spun 4 100 [.ref ob] [(ob, .inr (5, [z0, .ref pl, .ref h, .ref kh, z4, z5, z6, z7, z8, z9, z10])), (pl, .inr (1, [.ref fa, .int (nI nf), .int (nI nw), .ref xa, .ref ba, .ref pa, .ref aa, .int (jS J), .int (jN J), .float (jH J)])), (fa, .inl (E 0, 18, .inl fl)), (xa, .inl (E 0, 3, .inl x)), (ba, .inl (E 0, 12, .inl (jB J))), (pa, .inl (E 1, 4, .inr (.inr (.inl (jE J))))), (aa, .inl (E 1, 4, .inr (.inr (.inl (jA J))))), (h, .inr (4, [.ref hs, .ref ht, .ref hq, .int (nI (sD S)), .int (sM S), .float (sP S), .int (sI S), .int (sC S), .int (sA S), .int (sR S), .int (nI (sK S))])), (hs, .inl (E 1, 4, .inr (.inr (.inl (sF S))))), (ht, .inl (E 0, 4, .inl (sT S))), (hq, .inl (E 0, 18, .inl (sW S))), (kh, .inr (4, [.ref ks, .ref kt, .ref kq, .int (nI (sD U)), .int (sM U), .float (sP U), .int (sI U), .int (sC U), .int (sA U), .int (sR U), .int (nI (sK U))])), (ks, .inl (E 1, 4, .inr (.inr (.inl (sF U))))), (kt, .inl (E 0, 4, .inl (sT U))), (kq, .inl (E 0, 18, .inl (sW U)))] (fun (u9 : PJ × TS) => [(ob, .inr (5, [z0, .ref pl, .ref h, .ref kh, z4, z5, z6, z7, z8, z9, z10])), (pl, .inr (1, [.ref fa, .int (nI nf), .int (nI nw), .ref xa, .ref ba, .ref pa, .ref aa, .int (jS u9.1), .int (jN u9.1), .float (jH u9.1)])), (fa, .inl (E 0, 18, .inl fl)), (xa, .inl (E 0, 3, .inl x)), (ba, .inl (E 0, 12, .inl (jB u9.1))), (pa, .inl (E 1, 4, .inr (.inr (.inl (jE u9.1))))), (aa, .inl (E 1, 4, .inr (.inr (.inl (jA u9.1))))), (h, .inr (4, [.ref hs, .ref ht, .ref hq, .int (nI (sD S)), .int (sM S), .float (sP S), .int (sI S), .int (sC S), .int (sA S), .int (sR S), .int (nI (sK S))])), (hs, .inl (E 1, 4, .inr (.inr (.inl (sF S))))), (ht, .inl (E 0, 4, .inl (sT S))), (hq, .inl (E 0, 18, .inl (sW S))), (kh, .inr (4, [.ref ks, .ref kt, .ref kq, .int (nI (sD u9.2)), .int (sM u9.2), .float (sP u9.2), .int (sI u9.2), .int (sC u9.2), .int (sA u9.2), .int (sR u9.2), .int (nI (sK u9.2))])), (ks, .inl (E 1, 4, .inr (.inr (.inl (sF u9.2))))), (kt, .inl (E 0, 4, .inl (sT u9.2))), (kq, .inl (E 0, 18, .inl (sW u9.2)))]) (some (.int (sfI (spA nw nf fl x S) 61))) := by
  refine g_ME.of (cc := cX5_spun) (nL := 2) (ret := (some .int)) (own := RX5) (lv := [(0, .ref ob)]) (by decide) rfl rfl (Nat.le_of_ble_eq_true rfl) rfl ?_
  intro p e R s m args below meth c A Q H locs ls hR hQ hc hr hw hl
  have hx := hc.1
  have hb := hc.2.1
  have hts := hc.2.2.2.1
  have hown := hc.2.2.2.2.1
  refine lv_aload_n hx hb dX5_spun_0 rfl (lv_at hl 0 rfl) ?_
  refine g_cV (As := []) (n := 0) (rest := []) (wc := [(ob, .inr (5, [z0, .ref pl, .ref h, .ref kh, z4, z5, z6, z7, z8, z9, z10])), (h, .inr (4, [.ref hs, .ref ht, .ref hq, .int (nI (sD S)), .int (sM S), .float (sP S), .int (sI S), .int (sC S), .int (sA S), .int (sR S), .int (nI (sK S))])), (hs, .inl (E 1, 4, .inr (.inr (.inl (sF S))))), (ht, .inl (E 0, 4, .inl (sT S))), (hq, .inl (E 0, 18, .inl (sW S))), (kh, .inr (4, [.ref ks, .ref kt, .ref kq, .int (nI (sD U)), .int (sM U), .float (sP U), .int (sI U), .int (sC U), .int (sA U), .int (sR U), .int (nI (sK U))])), (ks, .inl (E 1, 4, .inr (.inr (.inl (sF U))))), (kt, .inl (E 0, 4, .inl (sT U))), (kq, .inl (E 0, 18, .inl (sW U)))]) (w1 := [(ob, .inr (5, [z0, .ref pl, .ref h, .ref kh, z4, z5, z6, z7, z8, z9, z10])), (h, .inr (4, [.ref hs, .ref ht, .ref hq, .int (nI (sD S)), .int (sM S), .float (sP S), .int (sI S), .int (sC S), .int (sA S), .int (sR S), .int (nI (sK S))])), (hs, .inl (E 1, 4, .inr (.inr (.inl (sF S))))), (ht, .inl (E 0, 4, .inl (sT S))), (hq, .inl (E 0, 18, .inl (sW S))), (kh, .inr (4, [.ref ks, .ref kt, .ref kq, .int (nI (sD S)), .int (sM S), .float (sP S), .int (sI S), .int (sC S), .int (sA S), .int (sR S), .int (nI (sK S))])), (ks, .inl (E 1, 4, .inr (.inr (.inl (sF S))))), (kt, .inl (E 0, 4, .inl (sT S))), (kq, .inl (E 0, 18, .inl (sW S)))]) (bytes := cX5_copyNow) (maxL := 1) (ret := none) hc hw hl.1 (m_X5_copyNow (l := l) (D := D) (E := E) (T := T) ob h hs ht hq kh ks kt kq z0 (.ref pl) z4 z5 z6 z7 z8 z9 z10 S U) gX5_spun_X5_copyNow rfl (by decide +kernel) (by rw [hR]; exact ⟨Nat.le_of_ble_eq_true rfl, Nat.le_of_ble_eq_true rfl⟩) [0, 7, 8, 9, 10, 11, 12, 13, 14] 0 5 rfl rfl (by decide) rfl [ob, h, hs, ht, hq, kh, ks, kt, kq] rfl rfl rfl rfl (Nat.le_of_ble_eq_true rfl) dX5_spun_1 ⟨Nat.zero_le _, Nat.zero_le _⟩ (fun H locs hw => ?_)
  have hw : g_W D A s [(ob, .inr (5, [z0, .ref pl, .ref h, .ref kh, z4, z5, z6, z7, z8, z9, z10])), (pl, .inr (1, [.ref fa, .int (nI nf), .int (nI nw), .ref xa, .ref ba, .ref pa, .ref aa, .int (jS J), .int (jN J), .float (jH J)])), (fa, .inl (E 0, 18, .inl fl)), (xa, .inl (E 0, 3, .inl x)), (ba, .inl (E 0, 12, .inl (jB J))), (pa, .inl (E 1, 4, .inr (.inr (.inl (jE J))))), (aa, .inl (E 1, 4, .inr (.inr (.inl (jA J))))), (h, .inr (4, [.ref hs, .ref ht, .ref hq, .int (nI (sD S)), .int (sM S), .float (sP S), .int (sI S), .int (sC S), .int (sA S), .int (sR S), .int (nI (sK S))])), (hs, .inl (E 1, 4, .inr (.inr (.inl (sF S))))), (ht, .inl (E 0, 4, .inl (sT S))), (hq, .inl (E 0, 18, .inl (sW S))), (kh, .inr (4, [.ref ks, .ref kt, .ref kq, .int (nI (sD S)), .int (sM S), .float (sP S), .int (sI S), .int (sC S), .int (sA S), .int (sR S), .int (nI (sK S))])), (ks, .inl (E 1, 4, .inr (.inr (.inl (sF S))))), (kt, .inl (E 0, 4, .inl (sT S))), (kq, .inl (E 0, 18, .inl (sW S)))] H locs := hw
  refine lv_iconst (v := 0) hx hb dX5_spun_4 (by decide) ?_
  refine lv_istore_n (lv' := [(1, .int 0), (0, .ref ob)]) hx hb dX5_spun_5 rfl hl (by decide) rfl (fun ls hl => ?_)
  have J6 : ∀ (k9 : Nat) (i : Nat), i + k9 = 61 → ∀ (J1 : PJ), (∀ j, j < i → spA nw nf fl x S j = false) → ∀ (H : Heap) (locs : List Loc) (ls : Array Slot), g_W D A s [(ob, .inr (5, [z0, .ref pl, .ref h, .ref kh, z4, z5, z6, z7, z8, z9, z10])), (pl, .inr (1, [.ref fa, .int (nI nf), .int (nI nw), .ref xa, .ref ba, .ref pa, .ref aa, .int (jS J1), .int (jN J1), .float (jH J1)])), (fa, .inl (E 0, 18, .inl fl)), (xa, .inl (E 0, 3, .inl x)), (ba, .inl (E 0, 12, .inl (jB J1))), (pa, .inl (E 1, 4, .inr (.inr (.inl (jE J1))))), (aa, .inl (E 1, 4, .inr (.inr (.inl (jA J1))))), (h, .inr (4, [.ref hs, .ref ht, .ref hq, .int (nI (sD S)), .int (sM S), .float (sP S), .int (sI S), .int (sC S), .int (sA S), .int (sR S), .int (nI (sK S))])), (hs, .inl (E 1, 4, .inr (.inr (.inl (sF S))))), (ht, .inl (E 0, 4, .inl (sT S))), (hq, .inl (E 0, 18, .inl (sW S))), (kh, .inr (4, [.ref ks, .ref kt, .ref kq, .int (nI (sD (tkN nw nf fl x S i))), .int (sM (tkN nw nf fl x S i)), .float (sP (tkN nw nf fl x S i)), .int (sI (tkN nw nf fl x S i)), .int (sC (tkN nw nf fl x S i)), .int (sA (tkN nw nf fl x S i)), .int (sR (tkN nw nf fl x S i)), .int (nI (sK (tkN nw nf fl x S i)))])), (ks, .inl (E 1, 4, .inr (.inr (.inl (sF (tkN nw nf fl x S i)))))), (kt, .inl (E 0, 4, .inl (sT (tkN nw nf fl x S i)))), (kq, .inl (E 0, 18, .inl (sW (tkN nw nf fl x S i))))] H locs → lv_has ls 2 [(0, .ref ob), (1, .int (nI i))] → W p l e R s m args below meth c H locs 0 0 Q (F0 m 6 ls []) := by
    intro k9
    induction k9 with
    | zero =>
      intro i h9 J1 hall H locs ls hw hl
      have h9 : i = 61 := h9
      subst h9
      refine lv_iload_n hx hb dX5_spun_6 rfl (lv_at hl 1 rfl) ?_
      refine lv_bipush (v := 60) hx hb dX5_spun_7 (by decide) ?_
      refine lv_icmp_gt (tgt := 42) hx hb dX5_spun_9 (by decide) (fun c_9 => ?_) (fun c_9 => absurd (by decide) c_9)
      refine lv_bipush (v := (-9)) hx hb dX5_spun_42 (by decide) ?_
      exact g_iretE (J1, (tkN nw nf fl x S 61)) hQ hc hw hr (by exact congrArg (fun z => some (Value.int z)) (sfI_none hall)) rfl dX5_spun_44
    | succ k9 ih =>
      intro i h9 J1 hall H locs ls hw hl
      have h9b : i < 61 := by omega
      refine lv_iload_n hx hb dX5_spun_6 rfl (lv_at hl 1 rfl) ?_
      refine lv_bipush (v := 60) hx hb dX5_spun_7 (by decide) ?_
      refine lv_icmp_gt (tgt := 42) hx hb dX5_spun_9 (by decide) (fun c_9 => absurd c_9 (nI_nlt (show i ≤ 60 by omega) (by decide))) (fun c_9 => ?_)
      refine lv_aload_n hx hb dX5_spun_12 rfl (lv_at hl 0 rfl) ?_
      refine g_get (TT := TX5) hc hw inX5_spun_X5 0 3 1 rfl rfl (by decide) rfl rfl dX5_spun_13 ?_
      refine g_getN (TT := TX4) hc hw inX5_spun_X4 11 4 28 rfl rfl (by decide) rfl rfl dX5_spun_16 ?_
      refine lv_iconst (v := 1) hx hb dX5_spun_19 (by decide) ?_
      refine lv_icmp_ne (tgt := 25) hx hb dX5_spun_20 (by decide) (fun c_20 => ?_) (fun c_20 => ?_)
      · skip
        refine lv_aload_n hx hb dX5_spun_25 rfl (lv_at hl 0 rfl) ?_
        refine g_get (TT := TX5) hc hw inX5_spun_X5 0 1 2 rfl rfl (by decide) rfl rfl dX5_spun_26 ?_
        refine lv_aload_n hx hb dX5_spun_29 rfl (lv_at hl 0 rfl) ?_
        refine g_get (TT := TX5) hc hw inX5_spun_X5 0 3 1 rfl rfl (by decide) rfl rfl dX5_spun_30 ?_
        refine g_cVN (As := [.ref kh]) (n := 1) (rest := []) (wc := [(pl, .inr (1, [.ref fa, .int (nI nf), .int (nI nw), .ref xa, .ref ba, .ref pa, .ref aa, .int (jS J1), .int (jN J1), .float (jH J1)])), (fa, .inl (E 0, 18, .inl fl)), (xa, .inl (E 0, 3, .inl x)), (ba, .inl (E 0, 12, .inl (jB J1))), (pa, .inl (E 1, 4, .inr (.inr (.inl (jE J1))))), (aa, .inl (E 1, 4, .inr (.inr (.inl (jA J1))))), (kh, .inr (4, [.ref ks, .ref kt, .ref kq, .int (nI (sD (tkN nw nf fl x S i))), .int (sM (tkN nw nf fl x S i)), .float (sP (tkN nw nf fl x S i)), .int (sI (tkN nw nf fl x S i)), .int (sC (tkN nw nf fl x S i)), .int (sA (tkN nw nf fl x S i)), .int (sR (tkN nw nf fl x S i)), .int (nI (sK (tkN nw nf fl x S i)))])), (ks, .inl (E 1, 4, .inr (.inr (.inl (sF (tkN nw nf fl x S i)))))), (kt, .inl (E 0, 4, .inl (sT (tkN nw nf fl x S i)))), (kq, .inl (E 0, 18, .inl (sW (tkN nw nf fl x S i))))]) (w1 := [(pl, .inr (1, [.ref fa, .int (nI nf), .int (nI nw), .ref xa, .ref ba, .ref pa, .ref aa, .int (jS (jnF nw x (tkN nw nf fl x S i) J1)), .int (jN (jnF nw x (tkN nw nf fl x S i) J1)), .float (jH (jnF nw x (tkN nw nf fl x S i) J1))])), (fa, .inl (E 0, 18, .inl fl)), (xa, .inl (E 0, 3, .inl x)), (ba, .inl (E 0, 12, .inl (jB (jnF nw x (tkN nw nf fl x S i) J1)))), (pa, .inl (E 1, 4, .inr (.inr (.inl (jE (jnF nw x (tkN nw nf fl x S i) J1)))))), (aa, .inl (E 1, 4, .inr (.inr (.inl (jA (jnF nw x (tkN nw nf fl x S i) J1)))))), (kh, .inr (4, [.ref ks, .ref kt, .ref kq, .int (nI (sD (tkF nw nf fl x (tkN nw nf fl x S i)))), .int (sM (tkF nw nf fl x (tkN nw nf fl x S i))), .float (sP (tkF nw nf fl x (tkN nw nf fl x S i))), .int (sI (tkF nw nf fl x (tkN nw nf fl x S i))), .int (sC (tkF nw nf fl x (tkN nw nf fl x S i))), .int (sA (tkF nw nf fl x (tkN nw nf fl x S i))), .int (sR (tkF nw nf fl x (tkN nw nf fl x S i))), .int (nI (sK (tkF nw nf fl x (tkN nw nf fl x S i))))])), (ks, .inl (E 1, 4, .inr (.inr (.inl (sF (tkF nw nf fl x (tkN nw nf fl x S i))))))), (kt, .inl (E 0, 4, .inl (sT (tkF nw nf fl x (tkN nw nf fl x S i))))), (kq, .inl (E 0, 18, .inl (sW (tkF nw nf fl x (tkN nw nf fl x S i)))))]) (bytes := cX1_pass) (maxL := 2) (ret := none) hc hw hl.1 (m_X1_pass (l := l) (D := D) (E := E) (T := T) pl fa nf nw xa ba pa aa fl x J1 kh ks kt kq (tkN nw nf fl x S i) (B + i) (hok.tn nw nf fl x i) (by omega) (by first | assumption | omega | decide) (by first | assumption | omega | decide)) ggX5_spun_X1_pass rfl 73 rfl 29 28 30 rfl rfl rfl (by decide +kernel) (by rw [hR]; exact ⟨Nat.le_of_ble_eq_true rfl, Nat.le_of_ble_eq_true rfl⟩) [1, 2, 3, 4, 5, 6, 11, 12, 13, 14] 1 1 rfl rfl (by decide) rfl [pl, fa, xa, ba, pa, aa, kh, ks, kt, kq] rfl rfl rfl rfl (Nat.le_of_ble_eq_true rfl) dX5_spun_33 ⟨Nat.zero_le _, Nat.zero_le _⟩ (fun H locs hw => ?_)
        have hw : g_W D A s [(ob, .inr (5, [z0, .ref pl, .ref h, .ref kh, z4, z5, z6, z7, z8, z9, z10])), (pl, .inr (1, [.ref fa, .int (nI nf), .int (nI nw), .ref xa, .ref ba, .ref pa, .ref aa, .int (jS (jnF nw x (tkN nw nf fl x S i) J1)), .int (jN (jnF nw x (tkN nw nf fl x S i) J1)), .float (jH (jnF nw x (tkN nw nf fl x S i) J1))])), (fa, .inl (E 0, 18, .inl fl)), (xa, .inl (E 0, 3, .inl x)), (ba, .inl (E 0, 12, .inl (jB (jnF nw x (tkN nw nf fl x S i) J1)))), (pa, .inl (E 1, 4, .inr (.inr (.inl (jE (jnF nw x (tkN nw nf fl x S i) J1)))))), (aa, .inl (E 1, 4, .inr (.inr (.inl (jA (jnF nw x (tkN nw nf fl x S i) J1)))))), (h, .inr (4, [.ref hs, .ref ht, .ref hq, .int (nI (sD S)), .int (sM S), .float (sP S), .int (sI S), .int (sC S), .int (sA S), .int (sR S), .int (nI (sK S))])), (hs, .inl (E 1, 4, .inr (.inr (.inl (sF S))))), (ht, .inl (E 0, 4, .inl (sT S))), (hq, .inl (E 0, 18, .inl (sW S))), (kh, .inr (4, [.ref ks, .ref kt, .ref kq, .int (nI (sD (tkF nw nf fl x (tkN nw nf fl x S i)))), .int (sM (tkF nw nf fl x (tkN nw nf fl x S i))), .float (sP (tkF nw nf fl x (tkN nw nf fl x S i))), .int (sI (tkF nw nf fl x (tkN nw nf fl x S i))), .int (sC (tkF nw nf fl x (tkN nw nf fl x S i))), .int (sA (tkF nw nf fl x (tkN nw nf fl x S i))), .int (sR (tkF nw nf fl x (tkN nw nf fl x S i))), .int (nI (sK (tkF nw nf fl x (tkN nw nf fl x S i))))])), (ks, .inl (E 1, 4, .inr (.inr (.inl (sF (tkF nw nf fl x (tkN nw nf fl x S i))))))), (kt, .inl (E 0, 4, .inl (sT (tkF nw nf fl x (tkN nw nf fl x S i))))), (kq, .inl (E 0, 18, .inl (sW (tkF nw nf fl x (tkN nw nf fl x S i)))))] H locs := hw
        refine lv_iinc (v := nI (i + 1)) (lv' := [(1, .int (nI (i + 1))), (0, .ref ob)]) hx hb dX5_spun_36 hl (k := 1) rfl (n_inc1 rfl) (by decide) rfl (fun ls hl => ?_)
        refine lv_goto (tgt := 6) hx hb dX5_spun_39 (by decide) ?_
        have hw : g_W D A s [(ob, .inr (5, [z0, .ref pl, .ref h, .ref kh, z4, z5, z6, z7, z8, z9, z10])), (pl, .inr (1, [.ref fa, .int (nI nf), .int (nI nw), .ref xa, .ref ba, .ref pa, .ref aa, .int (jS (jnF nw x (tkN nw nf fl x S i) J1)), .int (jN (jnF nw x (tkN nw nf fl x S i) J1)), .float (jH (jnF nw x (tkN nw nf fl x S i) J1))])), (fa, .inl (E 0, 18, .inl fl)), (xa, .inl (E 0, 3, .inl x)), (ba, .inl (E 0, 12, .inl (jB (jnF nw x (tkN nw nf fl x S i) J1)))), (pa, .inl (E 1, 4, .inr (.inr (.inl (jE (jnF nw x (tkN nw nf fl x S i) J1)))))), (aa, .inl (E 1, 4, .inr (.inr (.inl (jA (jnF nw x (tkN nw nf fl x S i) J1)))))), (h, .inr (4, [.ref hs, .ref ht, .ref hq, .int (nI (sD S)), .int (sM S), .float (sP S), .int (sI S), .int (sC S), .int (sA S), .int (sR S), .int (nI (sK S))])), (hs, .inl (E 1, 4, .inr (.inr (.inl (sF S))))), (ht, .inl (E 0, 4, .inl (sT S))), (hq, .inl (E 0, 18, .inl (sW S))), (kh, .inr (4, [.ref ks, .ref kt, .ref kq, .int (nI (sD (tkN nw nf fl x S (i + 1)))), .int (sM (tkN nw nf fl x S (i + 1))), .float (sP (tkN nw nf fl x S (i + 1))), .int (sI (tkN nw nf fl x S (i + 1))), .int (sC (tkN nw nf fl x S (i + 1))), .int (sA (tkN nw nf fl x S (i + 1))), .int (sR (tkN nw nf fl x S (i + 1))), .int (nI (sK (tkN nw nf fl x S (i + 1))))])), (ks, .inl (E 1, 4, .inr (.inr (.inl (sF (tkN nw nf fl x S (i + 1))))))), (kt, .inl (E 0, 4, .inl (sT (tkN nw nf fl x S (i + 1))))), (kq, .inl (E 0, 18, .inl (sW (tkN nw nf fl x S (i + 1)))))] H locs := by
          exact hw
        exact ih (i + 1) (by omega) (jnF nw x (tkN nw nf fl x S i) J1) (all_f hall (decide_eq_false c_20)) _ _ _ hw (lv_sub hl [1, 0] rfl)
      · skip
        refine lv_iload_n hx hb dX5_spun_23 rfl (lv_at hl 1 rfl) ?_
        exact g_iretE (J1, (tkN nw nf fl x S i)) hQ hc hw hr (by exact congrArg (fun z => some (Value.int z)) (sfI_some hall (decide_eq_true c_20) (by omega))) rfl dX5_spun_24
  have hw : g_W D A s [(ob, .inr (5, [z0, .ref pl, .ref h, .ref kh, z4, z5, z6, z7, z8, z9, z10])), (pl, .inr (1, [.ref fa, .int (nI nf), .int (nI nw), .ref xa, .ref ba, .ref pa, .ref aa, .int (jS J), .int (jN J), .float (jH J)])), (fa, .inl (E 0, 18, .inl fl)), (xa, .inl (E 0, 3, .inl x)), (ba, .inl (E 0, 12, .inl (jB J))), (pa, .inl (E 1, 4, .inr (.inr (.inl (jE J))))), (aa, .inl (E 1, 4, .inr (.inr (.inl (jA J))))), (h, .inr (4, [.ref hs, .ref ht, .ref hq, .int (nI (sD S)), .int (sM S), .float (sP S), .int (sI S), .int (sC S), .int (sA S), .int (sR S), .int (nI (sK S))])), (hs, .inl (E 1, 4, .inr (.inr (.inl (sF S))))), (ht, .inl (E 0, 4, .inl (sT S))), (hq, .inl (E 0, 18, .inl (sW S))), (kh, .inr (4, [.ref ks, .ref kt, .ref kq, .int (nI (sD (tkN nw nf fl x S 0))), .int (sM (tkN nw nf fl x S 0)), .float (sP (tkN nw nf fl x S 0)), .int (sI (tkN nw nf fl x S 0)), .int (sC (tkN nw nf fl x S 0)), .int (sA (tkN nw nf fl x S 0)), .int (sR (tkN nw nf fl x S 0)), .int (nI (sK (tkN nw nf fl x S 0)))])), (ks, .inl (E 1, 4, .inr (.inr (.inl (sF (tkN nw nf fl x S 0)))))), (kt, .inl (E 0, 4, .inl (sT (tkN nw nf fl x S 0)))), (kq, .inl (E 0, 18, .inl (sW (tkN nw nf fl x S 0))))] H locs := by
    exact hw
  exact J6 61 0 (by omega) J (fun j hj => absurd hj (Nat.not_lt_zero j)) _ _ _ hw (lv_sub hl [1, 0] rfl)

theorem dX5_judge_0 : decode cX5_judge 0 = .ok (.iload_n 1, 1) := by decide +kernel
theorem dX5_judge_1 : decode cX5_judge 1 = .ok (.iconst 1, 1) := by decide +kernel
theorem dX5_judge_2 : decode cX5_judge 2 = .ok (.iconst 3, 1) := by decide +kernel
theorem dX5_judge_3 : decode cX5_judge 3 = .ok (.invokestatic 59, 3) := by decide +kernel
theorem dX5_judge_6 : decode cX5_judge 6 = .ok (.ifCond .ne 18, 3) := by decide +kernel
theorem dX5_judge_24 : decode cX5_judge 24 = .ok (.bipush (-2), 2) := by decide +kernel
theorem dX5_judge_26 : decode cX5_judge 26 = .ok (.ireturn, 1) := by decide +kernel
set_option maxRecDepth 20000 in
theorem ggX5_judge_X5_outside : GoodIn wsX5_judge wsX5_outside := goodIn_r _ [4] rfl (by decide +kernel)
set_option maxRecDepth 20000 in
theorem gX5_judge_X5_outside : GoodIn wsX5_judge (va_wsS RX5 59 yX5_outside wsX5_outside) := goodIn_app (goodIn_of _ (by decide +kernel)) ggX5_judge_X5_outside
set_option maxRecDepth 100000 in
set_option maxHeartbeats 4000000 in
theorem m_X5_judge_out {l : Launch} {D : va_G} {E : Nat → ClassId} {T : Nat → Nat} (ob : Nat) (z0 : Value) (z1 : Value) (z2 : Value) (z3 : Value) (z4 : Value) (z5 : Value) (z6 : Value) (z7 : Value) (z8 : Value) (z9 : Value) (z10 : Value) (v : Int32) (w : Int64) (ho : outB v 1 3 = true) : g_M l D E T yX5_judge wsX5_judge 1 22 [.ref ob, .int v, .long w] [(ob, .inr (5, [z0, z1, z2, z3, z4, z5, z6, z7, z8, z9, z10]))] [(ob, .inr (5, [z0, z1, z2, z3, z4, z5, z6, z7, z8, z9, z10]))] (some (.int (-2))) := by
  refine g_M.of (cc := cX5_judge) (nL := 5) (ret := (some .int)) (own := RX5) (lv := [(0, .ref ob), (1, .int v), (2, .long w)]) (by decide) rfl rfl (Nat.le_of_ble_eq_true rfl) rfl ?_
  intro p e R s m args below meth c A Q H locs ls hR hQ hc hr hw hl
  have hx := hc.1
  have hb := hc.2.1
  have hts := hc.2.2.2.1
  have hown := hc.2.2.2.2.1
  refine lv_iload_n hx hb dX5_judge_0 rfl (lv_at hl 1 rfl) ?_
  refine lv_iconst (v := 1) hx hb dX5_judge_1 (by decide) ?_
  refine lv_iconst (v := 3) hx hb dX5_judge_2 (by decide) ?_
  refine g_cS (As := [.int v, .int 1, .int 3]) (n := 3) (rest := []) (wc := []) (w1 := []) (bytes := cX5_outside) (maxL := 3) (ret := (some .boolean)) hc hw hl.1 (m_X5_outside (l := l) (D := D) (E := E) (T := T) v 1 3) gX5_judge_X5_outside rfl (by decide +kernel) (by rw [hR]; exact ⟨Nat.le_of_ble_eq_true rfl, Nat.le_of_ble_eq_true rfl⟩) [] (by decide) rfl [] rfl rfl rfl rfl (Nat.le_of_ble_eq_true rfl) dX5_judge_3 ⟨Nat.zero_le _, Nat.zero_le _⟩ (fun H locs hw => ?_)
  have hw : g_W D A s [(ob, .inr (5, [z0, z1, z2, z3, z4, z5, z6, z7, z8, z9, z10]))] H locs := hw
  refine W.eq (congrArg (fun z => F0 m 6 ls (.int z :: [])) (show (b2i (outB v 1 3) : Int32) = 1 from (congrArg b2i ho))) ?_
  refine lv_if_ne (tgt := 24) hx hb dX5_judge_6 (by decide) (fun c_6 => ?_) (fun c_6 => absurd c_6 (by decide))
  refine lv_bipush (v := (-2)) hx hb dX5_judge_24 (by decide) ?_
  exact g_iret hQ hc hw hr rfl rfl dX5_judge_26

theorem dX5_judge_9 : decode cX5_judge 9 = .ok (.lload_n 2, 1) := by decide +kernel
theorem dX5_judge_10 : decode cX5_judge 10 = .ok (.lconst 0, 1) := by decide +kernel
theorem dX5_judge_11 : decode cX5_judge 11 = .ok (.lcmp, 1) := by decide +kernel
theorem dX5_judge_12 : decode cX5_judge 12 = .ok (.ifCond .lt 12, 3) := by decide +kernel
theorem dX5_judge_15 : decode cX5_judge 15 = .ok (.lload_n 2, 1) := by decide +kernel
theorem dX5_judge_16 : decode cX5_judge 16 = .ok (.iload_n 1, 1) := by decide +kernel
theorem dX5_judge_17 : decode cX5_judge 17 = .ok (.invokestatic 210, 3) := by decide +kernel
theorem dX5_judge_20 : decode cX5_judge 20 = .ok (.lcmp, 1) := by decide +kernel
theorem dX5_judge_21 : decode cX5_judge 21 = .ok (.ifCond .lt 6, 3) := by decide +kernel
set_option maxRecDepth 20000 in
theorem ggX5_judge_X5_rowsOf : GoodIn wsX5_judge wsX5_rowsOf := goodIn_r _ [7, 8] rfl (by decide +kernel)
set_option maxRecDepth 20000 in
theorem gX5_judge_X5_rowsOf : GoodIn wsX5_judge (va_wsS RX5 210 yX5_rowsOf wsX5_rowsOf) := goodIn_app (goodIn_of _ (by decide +kernel)) ggX5_judge_X5_rowsOf
set_option maxRecDepth 100000 in
set_option maxHeartbeats 4000000 in
theorem m_X5_judge_row {l : Launch} {D : va_G} {E : Nat → ClassId} {T : Nat → Nat} (ob : Nat) (n : Nat) (z0 : Value) (z1 : Value) (z2 : Value) (z3 : Value) (z4 : Value) (z5 : Value) (z6 : Value) (z7 : Value) (z8 : Value) (z9 : Value) (z10 : Value) (w : Int64) (hn1 : 1 ≤ n) (hn : n ≤ 3) (ho : lg_cmp w 0 < 0 ∨ ¬ lg_cmp w (rwF n) < 0) : g_M l D E T yX5_judge wsX5_judge 1 23 [.ref ob, .int (nI n), .long w] [(ob, .inr (5, [z0, z1, z2, z3, z4, z5, z6, z7, z8, z9, z10]))] [(ob, .inr (5, [z0, z1, z2, z3, z4, z5, z6, z7, z8, z9, z10]))] (some (.int (-2))) := by
  refine g_M.of (cc := cX5_judge) (nL := 5) (ret := (some .int)) (own := RX5) (lv := [(0, .ref ob), (1, .int (nI n)), (2, .long w)]) (by decide) rfl rfl (Nat.le_of_ble_eq_true rfl) rfl ?_
  intro p e R s m args below meth c A Q H locs ls hR hQ hc hr hw hl
  have hx := hc.1
  have hb := hc.2.1
  have hts := hc.2.2.2.1
  have hown := hc.2.2.2.2.1
  refine lv_iload_n hx hb dX5_judge_0 rfl (lv_at hl 1 rfl) ?_
  refine lv_iconst (v := 1) hx hb dX5_judge_1 (by decide) ?_
  refine lv_iconst (v := 3) hx hb dX5_judge_2 (by decide) ?_
  refine g_cS (As := [.int (nI n), .int 1, .int 3]) (n := 3) (rest := []) (wc := []) (w1 := []) (bytes := cX5_outside) (maxL := 3) (ret := (some .boolean)) hc hw hl.1 (m_X5_outside (l := l) (D := D) (E := E) (T := T) (nI n) 1 3) gX5_judge_X5_outside rfl (by decide +kernel) (by rw [hR]; exact ⟨Nat.le_of_ble_eq_true rfl, Nat.le_of_ble_eq_true rfl⟩) [] (by decide) rfl [] rfl rfl rfl rfl (Nat.le_of_ble_eq_true rfl) dX5_judge_3 ⟨Nat.zero_le _, Nat.zero_le _⟩ (fun H locs hw => ?_)
  have hw : g_W D A s [(ob, .inr (5, [z0, z1, z2, z3, z4, z5, z6, z7, z8, z9, z10]))] H locs := hw
  refine W.eq (congrArg (fun z => F0 m 6 ls (.int z :: [])) (show (b2i (outB (nI n) 1 3) : Int32) = 0 from (congrArg b2i (out_nf (n := n) (a := 1) (b := 3) (by omega) hn (by decide))))) ?_
  refine lv_if_ne (tgt := 24) hx hb dX5_judge_6 (by decide) (fun c_6 => absurd c_6 (by decide)) (fun c_6 => ?_)
  refine lv_lload_n hx hb dX5_judge_9 rfl (lv_at hl 2 rfl) ?_
  refine lv_lconst (v := 0) hx hb dX5_judge_10 (by decide) ?_
  refine W.lcmp hx hb dX5_judge_11 ?_
  refine lv_if_lt (tgt := 24) hx hb dX5_judge_12 (by decide) (fun c_12 => ?_) (fun c_12 => ?_)
  · skip
    refine lv_bipush (v := (-2)) hx hb dX5_judge_24 (by decide) ?_
    exact g_iret hQ hc hw hr rfl rfl dX5_judge_26
  · skip
    refine lv_lload_n hx hb dX5_judge_15 rfl (lv_at hl 2 rfl) ?_
    refine lv_iload_n hx hb dX5_judge_16 rfl (lv_at hl 1 rfl) ?_
    refine g_cS (As := [.int (nI n)]) (n := 1) (rest := [.long w]) (wc := []) (w1 := []) (bytes := cX5_rowsOf) (maxL := 4) (ret := (some .long)) hc hw hl.1 (m_X5_rowsOf (l := l) (D := D) (E := E) (T := T) n (by first | assumption | omega | decide)) gX5_judge_X5_rowsOf rfl (by decide +kernel) (by rw [hR]; exact ⟨Nat.le_of_ble_eq_true rfl, Nat.le_of_ble_eq_true rfl⟩) [] (by decide) rfl [] rfl rfl rfl rfl (Nat.le_of_ble_eq_true rfl) dX5_judge_17 ⟨Nat.zero_le _, Nat.zero_le _⟩ (fun H locs hw => ?_)
    have hw : g_W D A s [(ob, .inr (5, [z0, z1, z2, z3, z4, z5, z6, z7, z8, z9, z10]))] H locs := hw
    refine W.lcmp hx hb dX5_judge_20 ?_
    refine lv_if_lt (tgt := 27) hx hb dX5_judge_21 (by decide) (fun c_21 => (ho.elim (fun q => absurd q c_12) (fun q => absurd c_21 q))) (fun c_21 => ?_)
    refine lv_bipush (v := (-2)) hx hb dX5_judge_24 (by decide) ?_
    exact g_iret hQ hc hw hr rfl rfl dX5_judge_26

theorem dX5_judge_27 : decode cX5_judge 27 = .ok (.aload_n 0, 1) := by decide +kernel
theorem dX5_judge_28 : decode cX5_judge 28 = .ok (.invokevirtual 187, 3) := by decide +kernel
theorem dX5_judge_31 : decode cX5_judge 31 = .ok (.iconst 0, 1) := by decide +kernel
theorem dX5_judge_32 : decode cX5_judge 32 = .ok (.istore 4, 2) := by decide +kernel
theorem dX5_judge_34 : decode cX5_judge 34 = .ok (.iload 4, 2) := by decide +kernel
theorem dX5_judge_36 : decode cX5_judge 36 = .ok (.iload_n 1, 1) := by decide +kernel
theorem dX5_judge_37 : decode cX5_judge 37 = .ok (.if_icmp .ge 26, 3) := by decide +kernel
theorem dX5_judge_40 : decode cX5_judge 40 = .ok (.aload_n 0, 1) := by decide +kernel
theorem dX5_judge_41 : decode cX5_judge 41 = .ok (.iload_n 1, 1) := by decide +kernel
theorem dX5_judge_42 : decode cX5_judge 42 = .ok (.lload_n 2, 1) := by decide +kernel
theorem dX5_judge_43 : decode cX5_judge 43 = .ok (.iload 4, 2) := by decide +kernel
theorem dX5_judge_45 : decode cX5_judge 45 = .ok (.invokestatic 214, 3) := by decide +kernel
theorem dX5_judge_48 : decode cX5_judge 48 = .ok (.invokevirtual 218, 3) := by decide +kernel
theorem dX5_judge_51 : decode cX5_judge 51 = .ok (.ifCond .ne 6, 3) := by decide +kernel
theorem dX5_judge_54 : decode cX5_judge 54 = .ok (.iload 4, 2) := by decide +kernel
theorem dX5_judge_56 : decode cX5_judge 56 = .ok (.ireturn, 1) := by decide +kernel
theorem dX5_judge_57 : decode cX5_judge 57 = .ok (.iinc 4 1, 3) := by decide +kernel
theorem dX5_judge_60 : decode cX5_judge 60 = .ok (.goto (-26), 3) := by decide +kernel
theorem dX5_judge_63 : decode cX5_judge 63 = .ok (.bipush (-9), 2) := by decide +kernel
theorem dX5_judge_65 : decode cX5_judge 65 = .ok (.ireturn, 1) := by decide +kernel
set_option maxRecDepth 20000 in
theorem ggX5_judge_X5_copyNow : GoodIn wsX5_judge wsX5_copyNow := goodIn_r _ [12, 13, 14, 15, 16, 17, 18, 19, 20, 21, 22, 23, 24, 25, 26, 27, 28, 29, 30, 31, 32, 33, 141, 142, 143, 144, 145, 146, 147, 148, 149, 150, 151, 152, 153, 154, 155, 156, 157, 158, 159, 160, 161, 162] rfl (by decide +kernel)
set_option maxRecDepth 20000 in
theorem gX5_judge_X5_copyNow : GoodIn wsX5_judge (wsV RX5 187 RX5 yX5_copyNow wsX5_copyNow) := goodIn_app (goodIn_of _ (by decide +kernel)) ggX5_judge_X5_copyNow
set_option maxRecDepth 20000 in
theorem ggX5_judge_X5_statementOf : GoodIn wsX5_judge wsX5_statementOf := goodIn_r _ [36, 8] rfl (by decide +kernel)
set_option maxRecDepth 20000 in
theorem gX5_judge_X5_statementOf : GoodIn wsX5_judge (va_wsS RX5 214 yX5_statementOf wsX5_statementOf) := goodIn_app (goodIn_of _ (by decide +kernel)) ggX5_judge_X5_statementOf
set_option maxRecDepth 20000 in
theorem ggX5_judge_X5_holds : GoodIn wsX5_judge wsX5_holds := goodIn_r _ [40, 41, 13, 42, 43, 44, 45, 46, 47, 48, 49, 50, 51, 52, 53, 54, 55, 56, 16, 57, 58, 26, 59, 60, 61, 62, 63, 64, 65, 66, 67, 68, 69, 70, 71, 72, 73, 74, 75, 76, 77, 78, 79, 80, 81, 82, 83, 84, 85, 86, 87, 88, 89, 90, 91, 92, 3, 93, 94, 95, 96, 97, 98, 99, 100, 101, 102, 103, 104, 105, 106, 107, 108, 109, 110, 111, 112, 113, 114, 19, 115, 116, 117, 118, 119, 120, 121, 122, 123, 124, 125, 126, 127, 128, 1, 2, 4, 129, 130, 131, 132, 133, 134, 135, 27, 136, 137, 138, 139, 140, 141, 142, 143, 144, 145, 146, 147, 148, 149, 150, 151, 152, 153, 154, 155, 156, 157, 158, 159, 160, 161, 162, 163, 164, 165, 166, 167, 168, 169, 170, 171, 172] rfl (by decide +kernel)
set_option maxRecDepth 20000 in
theorem gX5_judge_X5_holds : GoodIn wsX5_judge (wsV RX5 218 RX5 yX5_holds wsX5_holds) := goodIn_app (goodIn_of _ (by decide +kernel)) ggX5_judge_X5_holds
set_option maxRecDepth 100000 in
set_option maxHeartbeats 4000000 in
theorem m_X5_judge {l : Launch} {D : va_G} {E : Nat → ClassId} {T : Nat → Nat} (pl : Nat) (fa : Nat) (nf : Nat) (nw : Nat) (xa : Nat) (ba : Nat) (pa : Nat) (aa : Nat) (fl : Nat → Int32) (x : Nat → Int32) (J : PJ) (h : Nat) (hs : Nat) (ht : Nat) (hq : Nat) (S : TS) (B : Nat) (ob : Nat) (kh : Nat) (ks : Nat) (kt : Nat) (kq : Nat) (z0 : Value) (z4 : Value) (z5 : Value) (z6 : Value) (z7 : Value) (z8 : Value) (z9 : Value) (z10 : Value) (U : TS) (n : Nat) (r9 : Nat) (hok : OkS B S) (hB : B + 300 < 2 ^ 31) (hnw : nw ≤ 6) (hnf : nf ≤ 6) (hn1 : 1 ≤ n) (hn : n ≤ 3) (h12 : ¬ lg_cmp (lN r9) 0 < 0) (h21 : lg_cmp (lN r9) (rwF n) < 0) (hr9 : r9 < 2 ^ 62) : g_ME l D E T yX5_judge wsX5_judge 6 149 [.ref ob, .int (nI n), .long (lN r9)] [(ob, .inr (5, [z0, .ref pl, .ref h, .ref kh, z4, z5, z6, z7, z8, z9, z10])), (pl, .inr (1, [.ref fa, .int (nI nf), .int (nI nw), .ref xa, .ref ba, .ref pa, .ref aa, .int (jS J), .int (jN J), .float (jH J)])), (fa, .inl (E 0, 18, .inl fl)), (xa, .inl (E 0, 3, .inl x)), (ba, .inl (E 0, 12, .inl (jB J))), (pa, .inl (E 1, 4, .inr (.inr (.inl (jE J))))), (aa, .inl (E 1, 4, .inr (.inr (.inl (jA J))))), (h, .inr (4, [.ref hs, .ref ht, .ref hq, .int (nI (sD S)), .int (sM S), .float (sP S), .int (sI S), .int (sC S), .int (sA S), .int (sR S), .int (nI (sK S))])), (hs, .inl (E 1, 4, .inr (.inr (.inl (sF S))))), (ht, .inl (E 0, 4, .inl (sT S))), (hq, .inl (E 0, 18, .inl (sW S))), (kh, .inr (4, [.ref ks, .ref kt, .ref kq, .int (nI (sD U)), .int (sM U), .float (sP U), .int (sI U), .int (sC U), .int (sA U), .int (sR U), .int (nI (sK U))])), (ks, .inl (E 1, 4, .inr (.inr (.inl (sF U))))), (kt, .inl (E 0, 4, .inl (sT U))), (kq, .inl (E 0, 18, .inl (sW U)))] (fun (u9 : PJ × TS) => [(ob, .inr (5, [z0, .ref pl, .ref h, .ref kh, z4, z5, z6, z7, z8, z9, z10])), (pl, .inr (1, [.ref fa, .int (nI nf), .int (nI nw), .ref xa, .ref ba, .ref pa, .ref aa, .int (jS u9.1), .int (jN u9.1), .float (jH u9.1)])), (fa, .inl (E 0, 18, .inl fl)), (xa, .inl (E 0, 3, .inl x)), (ba, .inl (E 0, 12, .inl (jB u9.1))), (pa, .inl (E 1, 4, .inr (.inr (.inl (jE u9.1))))), (aa, .inl (E 1, 4, .inr (.inr (.inl (jA u9.1))))), (h, .inr (4, [.ref hs, .ref ht, .ref hq, .int (nI (sD S)), .int (sM S), .float (sP S), .int (sI S), .int (sC S), .int (sA S), .int (sR S), .int (nI (sK S))])), (hs, .inl (E 1, 4, .inr (.inr (.inl (sF S))))), (ht, .inl (E 0, 4, .inl (sT S))), (hq, .inl (E 0, 18, .inl (sW S))), (kh, .inr (4, [.ref ks, .ref kt, .ref kq, .int (nI (sD u9.2)), .int (sM u9.2), .float (sP u9.2), .int (sI u9.2), .int (sC u9.2), .int (sA u9.2), .int (sR u9.2), .int (nI (sK u9.2))])), (ks, .inl (E 1, 4, .inr (.inr (.inl (sF u9.2))))), (kt, .inl (E 0, 4, .inl (sT u9.2))), (kq, .inl (E 0, 18, .inl (sW u9.2)))]) (some (.int (sfI (jdB nw nf fl x n r9 S) n))) := by
  refine g_ME.of (cc := cX5_judge) (nL := 5) (ret := (some .int)) (own := RX5) (lv := [(0, .ref ob), (1, .int (nI n)), (2, .long (lN r9))]) (by decide) rfl rfl (Nat.le_of_ble_eq_true rfl) rfl ?_
  intro p e R s m args below meth c A Q H locs ls hR hQ hc hr hw hl
  have hx := hc.1
  have hb := hc.2.1
  have hts := hc.2.2.2.1
  have hown := hc.2.2.2.2.1
  refine lv_iload_n hx hb dX5_judge_0 rfl (lv_at hl 1 rfl) ?_
  refine lv_iconst (v := 1) hx hb dX5_judge_1 (by decide) ?_
  refine lv_iconst (v := 3) hx hb dX5_judge_2 (by decide) ?_
  refine g_cS (As := [.int (nI n), .int 1, .int 3]) (n := 3) (rest := []) (wc := []) (w1 := []) (bytes := cX5_outside) (maxL := 3) (ret := (some .boolean)) hc hw hl.1 (m_X5_outside (l := l) (D := D) (E := E) (T := T) (nI n) 1 3) gX5_judge_X5_outside rfl (by decide +kernel) (by rw [hR]; exact ⟨Nat.le_of_ble_eq_true rfl, Nat.le_of_ble_eq_true rfl⟩) [] (by decide) rfl [] rfl rfl rfl rfl (Nat.le_of_ble_eq_true rfl) dX5_judge_3 ⟨Nat.zero_le _, Nat.zero_le _⟩ (fun H locs hw => ?_)
  have hw : g_W D A s [(ob, .inr (5, [z0, .ref pl, .ref h, .ref kh, z4, z5, z6, z7, z8, z9, z10])), (pl, .inr (1, [.ref fa, .int (nI nf), .int (nI nw), .ref xa, .ref ba, .ref pa, .ref aa, .int (jS J), .int (jN J), .float (jH J)])), (fa, .inl (E 0, 18, .inl fl)), (xa, .inl (E 0, 3, .inl x)), (ba, .inl (E 0, 12, .inl (jB J))), (pa, .inl (E 1, 4, .inr (.inr (.inl (jE J))))), (aa, .inl (E 1, 4, .inr (.inr (.inl (jA J))))), (h, .inr (4, [.ref hs, .ref ht, .ref hq, .int (nI (sD S)), .int (sM S), .float (sP S), .int (sI S), .int (sC S), .int (sA S), .int (sR S), .int (nI (sK S))])), (hs, .inl (E 1, 4, .inr (.inr (.inl (sF S))))), (ht, .inl (E 0, 4, .inl (sT S))), (hq, .inl (E 0, 18, .inl (sW S))), (kh, .inr (4, [.ref ks, .ref kt, .ref kq, .int (nI (sD U)), .int (sM U), .float (sP U), .int (sI U), .int (sC U), .int (sA U), .int (sR U), .int (nI (sK U))])), (ks, .inl (E 1, 4, .inr (.inr (.inl (sF U))))), (kt, .inl (E 0, 4, .inl (sT U))), (kq, .inl (E 0, 18, .inl (sW U)))] H locs := hw
  refine W.eq (congrArg (fun z => F0 m 6 ls (.int z :: [])) (show (b2i (outB (nI n) 1 3) : Int32) = 0 from (congrArg b2i (out_nf (n := n) (a := 1) (b := 3) (by omega) hn (by decide))))) ?_
  refine lv_if_ne (tgt := 24) hx hb dX5_judge_6 (by decide) (fun c_6 => absurd c_6 (by decide)) (fun c_6 => ?_)
  refine lv_lload_n hx hb dX5_judge_9 rfl (lv_at hl 2 rfl) ?_
  refine lv_lconst (v := 0) hx hb dX5_judge_10 (by decide) ?_
  refine W.lcmp hx hb dX5_judge_11 ?_
  refine lv_if_lt (tgt := 24) hx hb dX5_judge_12 (by decide) (fun c_12 => absurd c_12 h12) (fun c_12 => ?_)
  refine lv_lload_n hx hb dX5_judge_15 rfl (lv_at hl 2 rfl) ?_
  refine lv_iload_n hx hb dX5_judge_16 rfl (lv_at hl 1 rfl) ?_
  refine g_cS (As := [.int (nI n)]) (n := 1) (rest := [.long (lN r9)]) (wc := []) (w1 := []) (bytes := cX5_rowsOf) (maxL := 4) (ret := (some .long)) hc hw hl.1 (m_X5_rowsOf (l := l) (D := D) (E := E) (T := T) n (by first | assumption | omega | decide)) gX5_judge_X5_rowsOf rfl (by decide +kernel) (by rw [hR]; exact ⟨Nat.le_of_ble_eq_true rfl, Nat.le_of_ble_eq_true rfl⟩) [] (by decide) rfl [] rfl rfl rfl rfl (Nat.le_of_ble_eq_true rfl) dX5_judge_17 ⟨Nat.zero_le _, Nat.zero_le _⟩ (fun H locs hw => ?_)
  have hw : g_W D A s [(ob, .inr (5, [z0, .ref pl, .ref h, .ref kh, z4, z5, z6, z7, z8, z9, z10])), (pl, .inr (1, [.ref fa, .int (nI nf), .int (nI nw), .ref xa, .ref ba, .ref pa, .ref aa, .int (jS J), .int (jN J), .float (jH J)])), (fa, .inl (E 0, 18, .inl fl)), (xa, .inl (E 0, 3, .inl x)), (ba, .inl (E 0, 12, .inl (jB J))), (pa, .inl (E 1, 4, .inr (.inr (.inl (jE J))))), (aa, .inl (E 1, 4, .inr (.inr (.inl (jA J))))), (h, .inr (4, [.ref hs, .ref ht, .ref hq, .int (nI (sD S)), .int (sM S), .float (sP S), .int (sI S), .int (sC S), .int (sA S), .int (sR S), .int (nI (sK S))])), (hs, .inl (E 1, 4, .inr (.inr (.inl (sF S))))), (ht, .inl (E 0, 4, .inl (sT S))), (hq, .inl (E 0, 18, .inl (sW S))), (kh, .inr (4, [.ref ks, .ref kt, .ref kq, .int (nI (sD U)), .int (sM U), .float (sP U), .int (sI U), .int (sC U), .int (sA U), .int (sR U), .int (nI (sK U))])), (ks, .inl (E 1, 4, .inr (.inr (.inl (sF U))))), (kt, .inl (E 0, 4, .inl (sT U))), (kq, .inl (E 0, 18, .inl (sW U)))] H locs := hw
  refine W.lcmp hx hb dX5_judge_20 ?_
  refine lv_if_lt (tgt := 27) hx hb dX5_judge_21 (by decide) (fun c_21 => ?_) (fun c_21 => absurd h21 c_21)
  refine lv_aload_n hx hb dX5_judge_27 rfl (lv_at hl 0 rfl) ?_
  refine g_cV (As := []) (n := 0) (rest := []) (wc := [(ob, .inr (5, [z0, .ref pl, .ref h, .ref kh, z4, z5, z6, z7, z8, z9, z10])), (h, .inr (4, [.ref hs, .ref ht, .ref hq, .int (nI (sD S)), .int (sM S), .float (sP S), .int (sI S), .int (sC S), .int (sA S), .int (sR S), .int (nI (sK S))])), (hs, .inl (E 1, 4, .inr (.inr (.inl (sF S))))), (ht, .inl (E 0, 4, .inl (sT S))), (hq, .inl (E 0, 18, .inl (sW S))), (kh, .inr (4, [.ref ks, .ref kt, .ref kq, .int (nI (sD U)), .int (sM U), .float (sP U), .int (sI U), .int (sC U), .int (sA U), .int (sR U), .int (nI (sK U))])), (ks, .inl (E 1, 4, .inr (.inr (.inl (sF U))))), (kt, .inl (E 0, 4, .inl (sT U))), (kq, .inl (E 0, 18, .inl (sW U)))]) (w1 := [(ob, .inr (5, [z0, .ref pl, .ref h, .ref kh, z4, z5, z6, z7, z8, z9, z10])), (h, .inr (4, [.ref hs, .ref ht, .ref hq, .int (nI (sD S)), .int (sM S), .float (sP S), .int (sI S), .int (sC S), .int (sA S), .int (sR S), .int (nI (sK S))])), (hs, .inl (E 1, 4, .inr (.inr (.inl (sF S))))), (ht, .inl (E 0, 4, .inl (sT S))), (hq, .inl (E 0, 18, .inl (sW S))), (kh, .inr (4, [.ref ks, .ref kt, .ref kq, .int (nI (sD S)), .int (sM S), .float (sP S), .int (sI S), .int (sC S), .int (sA S), .int (sR S), .int (nI (sK S))])), (ks, .inl (E 1, 4, .inr (.inr (.inl (sF S))))), (kt, .inl (E 0, 4, .inl (sT S))), (kq, .inl (E 0, 18, .inl (sW S)))]) (bytes := cX5_copyNow) (maxL := 1) (ret := none) hc hw hl.1 (m_X5_copyNow (l := l) (D := D) (E := E) (T := T) ob h hs ht hq kh ks kt kq z0 (.ref pl) z4 z5 z6 z7 z8 z9 z10 S U) gX5_judge_X5_copyNow rfl (by decide +kernel) (by rw [hR]; exact ⟨Nat.le_of_ble_eq_true rfl, Nat.le_of_ble_eq_true rfl⟩) [0, 7, 8, 9, 10, 11, 12, 13, 14] 0 5 rfl rfl (by decide) rfl [ob, h, hs, ht, hq, kh, ks, kt, kq] rfl rfl rfl rfl (Nat.le_of_ble_eq_true rfl) dX5_judge_28 ⟨Nat.zero_le _, Nat.zero_le _⟩ (fun H locs hw => ?_)
  have hw : g_W D A s [(ob, .inr (5, [z0, .ref pl, .ref h, .ref kh, z4, z5, z6, z7, z8, z9, z10])), (pl, .inr (1, [.ref fa, .int (nI nf), .int (nI nw), .ref xa, .ref ba, .ref pa, .ref aa, .int (jS J), .int (jN J), .float (jH J)])), (fa, .inl (E 0, 18, .inl fl)), (xa, .inl (E 0, 3, .inl x)), (ba, .inl (E 0, 12, .inl (jB J))), (pa, .inl (E 1, 4, .inr (.inr (.inl (jE J))))), (aa, .inl (E 1, 4, .inr (.inr (.inl (jA J))))), (h, .inr (4, [.ref hs, .ref ht, .ref hq, .int (nI (sD S)), .int (sM S), .float (sP S), .int (sI S), .int (sC S), .int (sA S), .int (sR S), .int (nI (sK S))])), (hs, .inl (E 1, 4, .inr (.inr (.inl (sF S))))), (ht, .inl (E 0, 4, .inl (sT S))), (hq, .inl (E 0, 18, .inl (sW S))), (kh, .inr (4, [.ref ks, .ref kt, .ref kq, .int (nI (sD S)), .int (sM S), .float (sP S), .int (sI S), .int (sC S), .int (sA S), .int (sR S), .int (nI (sK S))])), (ks, .inl (E 1, 4, .inr (.inr (.inl (sF S))))), (kt, .inl (E 0, 4, .inl (sT S))), (kq, .inl (E 0, 18, .inl (sW S)))] H locs := hw
  refine lv_iconst (v := 0) hx hb dX5_judge_31 (by decide) ?_
  refine lv_istore (lv' := [(4, .int 0), (0, .ref ob), (1, .int (nI n)), (2, .long (lN r9))]) hx hb dX5_judge_32 hl (by decide) rfl (fun ls hl => ?_)
  have J34 : ∀ (k9 : Nat) (i : Nat), i + k9 = n → ∀ (J1 : PJ), (∀ j, j < i → jdB nw nf fl x n r9 S j = false) → ∀ (H : Heap) (locs : List Loc) (ls : Array Slot), g_W D A s [(ob, .inr (5, [z0, .ref pl, .ref h, .ref kh, z4, z5, z6, z7, z8, z9, z10])), (pl, .inr (1, [.ref fa, .int (nI nf), .int (nI nw), .ref xa, .ref ba, .ref pa, .ref aa, .int (jS J1), .int (jN J1), .float (jH J1)])), (fa, .inl (E 0, 18, .inl fl)), (xa, .inl (E 0, 3, .inl x)), (ba, .inl (E 0, 12, .inl (jB J1))), (pa, .inl (E 1, 4, .inr (.inr (.inl (jE J1))))), (aa, .inl (E 1, 4, .inr (.inr (.inl (jA J1))))), (h, .inr (4, [.ref hs, .ref ht, .ref hq, .int (nI (sD S)), .int (sM S), .float (sP S), .int (sI S), .int (sC S), .int (sA S), .int (sR S), .int (nI (sK S))])), (hs, .inl (E 1, 4, .inr (.inr (.inl (sF S))))), (ht, .inl (E 0, 4, .inl (sT S))), (hq, .inl (E 0, 18, .inl (sW S))), (kh, .inr (4, [.ref ks, .ref kt, .ref kq, .int (nI (sD (jdS nw nf fl x n r9 S i))), .int (sM (jdS nw nf fl x n r9 S i)), .float (sP (jdS nw nf fl x n r9 S i)), .int (sI (jdS nw nf fl x n r9 S i)), .int (sC (jdS nw nf fl x n r9 S i)), .int (sA (jdS nw nf fl x n r9 S i)), .int (sR (jdS nw nf fl x n r9 S i)), .int (nI (sK (jdS nw nf fl x n r9 S i)))])), (ks, .inl (E 1, 4, .inr (.inr (.inl (sF (jdS nw nf fl x n r9 S i)))))), (kt, .inl (E 0, 4, .inl (sT (jdS nw nf fl x n r9 S i)))), (kq, .inl (E 0, 18, .inl (sW (jdS nw nf fl x n r9 S i))))] H locs → lv_has ls 5 [(0, .ref ob), (1, .int (nI n)), (2, .long (lN r9)), (4, .int (nI i))] → W p l e R s m args below meth c H locs 0 0 Q (F0 m 34 ls []) := by
    intro k9
    induction k9 with
    | zero =>
      intro i h9 J1 hall H locs ls hw hl
      have h9 : n = i := Eq.symm h9
      subst h9
      refine lv_iload hx hb dX5_judge_34 (lv_at hl 3 rfl) ?_
      refine lv_iload_n hx hb dX5_judge_36 rfl (lv_at hl 1 rfl) ?_
      refine lv_icmp_ge (tgt := 63) hx hb dX5_judge_37 (by decide) (fun c_37 => ?_) (fun c_37 => absurd (by exact Int32.le_refl _) c_37)
      refine lv_bipush (v := (-9)) hx hb dX5_judge_63 (by decide) ?_
      exact g_iretE (J1, (jdS nw nf fl x n r9 S n)) hQ hc hw hr (by exact congrArg (fun z => some (Value.int z)) (sfI_none hall)) rfl dX5_judge_65
    | succ k9 ih =>
      intro i h9 J1 hall H locs ls hw hl
      have h9b : i < n := by omega
      refine lv_iload hx hb dX5_judge_34 (lv_at hl 3 rfl) ?_
      refine lv_iload_n hx hb dX5_judge_36 rfl (lv_at hl 1 rfl) ?_
      refine lv_icmp_ge (tgt := 63) hx hb dX5_judge_37 (by decide) (fun c_37 => absurd c_37 (nI_ge (show i < n by omega) (by omega))) (fun c_37 => ?_)
      refine lv_aload_n hx hb dX5_judge_40 rfl (lv_at hl 0 rfl) ?_
      refine lv_iload_n hx hb dX5_judge_41 rfl (lv_at hl 1 rfl) ?_
      refine lv_lload_n hx hb dX5_judge_42 rfl (lv_at hl 2 rfl) ?_
      refine lv_iload hx hb dX5_judge_43 (lv_at hl 3 rfl) ?_
      refine g_cS (As := [.int (nI n), .long (lN r9), .int (nI i)]) (n := 3) (rest := [.ref ob]) (wc := []) (w1 := []) (bytes := cX5_statementOf) (maxL := 7) (ret := (some .int)) hc hw hl.1 (m_X5_statementOf (l := l) (D := D) (E := E) (T := T) n r9 i (by omega) (by omega) hr9) gX5_judge_X5_statementOf rfl (by decide +kernel) (by rw [hR]; exact ⟨Nat.le_of_ble_eq_true rfl, Nat.le_of_ble_eq_true rfl⟩) [] (by decide) rfl [] rfl rfl rfl rfl (Nat.le_of_ble_eq_true rfl) dX5_judge_45 ⟨Nat.zero_le _, Nat.zero_le _⟩ (fun H locs hw => ?_)
      have hw : g_W D A s [(ob, .inr (5, [z0, .ref pl, .ref h, .ref kh, z4, z5, z6, z7, z8, z9, z10])), (pl, .inr (1, [.ref fa, .int (nI nf), .int (nI nw), .ref xa, .ref ba, .ref pa, .ref aa, .int (jS J1), .int (jN J1), .float (jH J1)])), (fa, .inl (E 0, 18, .inl fl)), (xa, .inl (E 0, 3, .inl x)), (ba, .inl (E 0, 12, .inl (jB J1))), (pa, .inl (E 1, 4, .inr (.inr (.inl (jE J1))))), (aa, .inl (E 1, 4, .inr (.inr (.inl (jA J1))))), (h, .inr (4, [.ref hs, .ref ht, .ref hq, .int (nI (sD S)), .int (sM S), .float (sP S), .int (sI S), .int (sC S), .int (sA S), .int (sR S), .int (nI (sK S))])), (hs, .inl (E 1, 4, .inr (.inr (.inl (sF S))))), (ht, .inl (E 0, 4, .inl (sT S))), (hq, .inl (E 0, 18, .inl (sW S))), (kh, .inr (4, [.ref ks, .ref kt, .ref kq, .int (nI (sD (jdS nw nf fl x n r9 S i))), .int (sM (jdS nw nf fl x n r9 S i)), .float (sP (jdS nw nf fl x n r9 S i)), .int (sI (jdS nw nf fl x n r9 S i)), .int (sC (jdS nw nf fl x n r9 S i)), .int (sA (jdS nw nf fl x n r9 S i)), .int (sR (jdS nw nf fl x n r9 S i)), .int (nI (sK (jdS nw nf fl x n r9 S i)))])), (ks, .inl (E 1, 4, .inr (.inr (.inl (sF (jdS nw nf fl x n r9 S i)))))), (kt, .inl (E 0, 4, .inl (sT (jdS nw nf fl x n r9 S i)))), (kq, .inl (E 0, 18, .inl (sW (jdS nw nf fl x n r9 S i))))] H locs := hw
      refine W.eq (congrArg (fun z => F0 m 48 ls (.int z :: [.ref ob])) (show (nI (r9 / 10000 ^ (n - 1 - i) % 10000) : Int32) = nI (stN n r9 i) from rfl)) ?_
      refine g_cV (As := [.int (nI (stN n r9 i))]) (n := 1) (rest := []) (wc := [(ob, .inr (5, [z0, .ref pl, .ref h, .ref kh, z4, z5, z6, z7, z8, z9, z10])), (pl, .inr (1, [.ref fa, .int (nI nf), .int (nI nw), .ref xa, .ref ba, .ref pa, .ref aa, .int (jS J1), .int (jN J1), .float (jH J1)])), (fa, .inl (E 0, 18, .inl fl)), (xa, .inl (E 0, 3, .inl x)), (ba, .inl (E 0, 12, .inl (jB J1))), (pa, .inl (E 1, 4, .inr (.inr (.inl (jE J1))))), (aa, .inl (E 1, 4, .inr (.inr (.inl (jA J1))))), (kh, .inr (4, [.ref ks, .ref kt, .ref kq, .int (nI (sD (jdS nw nf fl x n r9 S i))), .int (sM (jdS nw nf fl x n r9 S i)), .float (sP (jdS nw nf fl x n r9 S i)), .int (sI (jdS nw nf fl x n r9 S i)), .int (sC (jdS nw nf fl x n r9 S i)), .int (sA (jdS nw nf fl x n r9 S i)), .int (sR (jdS nw nf fl x n r9 S i)), .int (nI (sK (jdS nw nf fl x n r9 S i)))])), (ks, .inl (E 1, 4, .inr (.inr (.inl (sF (jdS nw nf fl x n r9 S i)))))), (kt, .inl (E 0, 4, .inl (sT (jdS nw nf fl x n r9 S i)))), (kq, .inl (E 0, 18, .inl (sW (jdS nw nf fl x n r9 S i))))]) (w1 := [(ob, .inr (5, [z0, .ref pl, .ref h, .ref kh, z4, z5, z6, z7, z8, z9, z10])), (pl, .inr (1, [.ref fa, .int (nI nf), .int (nI nw), .ref xa, .ref ba, .ref pa, .ref aa, .int (jS (hdJ nw nf fl x (stN n r9 i) (jdS nw nf fl x n r9 S i) J1)), .int (jN (hdJ nw nf fl x (stN n r9 i) (jdS nw nf fl x n r9 S i) J1)), .float (jH (hdJ nw nf fl x (stN n r9 i) (jdS nw nf fl x n r9 S i) J1))])), (fa, .inl (E 0, 18, .inl fl)), (xa, .inl (E 0, 3, .inl x)), (ba, .inl (E 0, 12, .inl (jB (hdJ nw nf fl x (stN n r9 i) (jdS nw nf fl x n r9 S i) J1)))), (pa, .inl (E 1, 4, .inr (.inr (.inl (jE (hdJ nw nf fl x (stN n r9 i) (jdS nw nf fl x n r9 S i) J1)))))), (aa, .inl (E 1, 4, .inr (.inr (.inl (jA (hdJ nw nf fl x (stN n r9 i) (jdS nw nf fl x n r9 S i) J1)))))), (kh, .inr (4, [.ref ks, .ref kt, .ref kq, .int (nI (sD (hdS nw nf fl x (stN n r9 i) (jdS nw nf fl x n r9 S i)))), .int (sM (hdS nw nf fl x (stN n r9 i) (jdS nw nf fl x n r9 S i))), .float (sP (hdS nw nf fl x (stN n r9 i) (jdS nw nf fl x n r9 S i))), .int (sI (hdS nw nf fl x (stN n r9 i) (jdS nw nf fl x n r9 S i))), .int (sC (hdS nw nf fl x (stN n r9 i) (jdS nw nf fl x n r9 S i))), .int (sA (hdS nw nf fl x (stN n r9 i) (jdS nw nf fl x n r9 S i))), .int (sR (hdS nw nf fl x (stN n r9 i) (jdS nw nf fl x n r9 S i))), .int (nI (sK (hdS nw nf fl x (stN n r9 i) (jdS nw nf fl x n r9 S i))))])), (ks, .inl (E 1, 4, .inr (.inr (.inl (sF (hdS nw nf fl x (stN n r9 i) (jdS nw nf fl x n r9 S i))))))), (kt, .inl (E 0, 4, .inl (sT (hdS nw nf fl x (stN n r9 i) (jdS nw nf fl x n r9 S i))))), (kq, .inl (E 0, 18, .inl (sW (hdS nw nf fl x (stN n r9 i) (jdS nw nf fl x n r9 S i)))))]) (bytes := cX5_holds) (maxL := 7) (ret := (some .boolean)) hc hw hl.1 (m_X5_holds (l := l) (D := D) (E := E) (T := T) pl fa nf nw xa ba pa aa fl x J1 ob kh ks kt kq z0 (.ref h) z4 z5 z6 z7 z8 z9 z10 (stN n r9 i) (B + 99 * i) (jdS nw nf fl x n r9 S i) (hok.jd nw nf fl x n r9 i) (by omega) (by first | assumption | omega | decide) (by first | assumption | omega | decide) (stN_lt n r9 i)) gX5_judge_X5_holds rfl (by decide +kernel) (by rw [hR]; exact ⟨Nat.le_of_ble_eq_true rfl, Nat.le_of_ble_eq_true rfl⟩) [0, 1, 2, 3, 4, 5, 6, 11, 12, 13, 14] 0 5 rfl rfl (by decide) rfl [ob, pl, fa, xa, ba, pa, aa, kh, ks, kt, kq] rfl rfl rfl rfl (Nat.le_of_ble_eq_true rfl) dX5_judge_48 ⟨Nat.zero_le _, Nat.zero_le _⟩ (fun H locs hw => ?_)
      have hw : g_W D A s [(ob, .inr (5, [z0, .ref pl, .ref h, .ref kh, z4, z5, z6, z7, z8, z9, z10])), (pl, .inr (1, [.ref fa, .int (nI nf), .int (nI nw), .ref xa, .ref ba, .ref pa, .ref aa, .int (jS (hdJ nw nf fl x (stN n r9 i) (jdS nw nf fl x n r9 S i) J1)), .int (jN (hdJ nw nf fl x (stN n r9 i) (jdS nw nf fl x n r9 S i) J1)), .float (jH (hdJ nw nf fl x (stN n r9 i) (jdS nw nf fl x n r9 S i) J1))])), (fa, .inl (E 0, 18, .inl fl)), (xa, .inl (E 0, 3, .inl x)), (ba, .inl (E 0, 12, .inl (jB (hdJ nw nf fl x (stN n r9 i) (jdS nw nf fl x n r9 S i) J1)))), (pa, .inl (E 1, 4, .inr (.inr (.inl (jE (hdJ nw nf fl x (stN n r9 i) (jdS nw nf fl x n r9 S i) J1)))))), (aa, .inl (E 1, 4, .inr (.inr (.inl (jA (hdJ nw nf fl x (stN n r9 i) (jdS nw nf fl x n r9 S i) J1)))))), (h, .inr (4, [.ref hs, .ref ht, .ref hq, .int (nI (sD S)), .int (sM S), .float (sP S), .int (sI S), .int (sC S), .int (sA S), .int (sR S), .int (nI (sK S))])), (hs, .inl (E 1, 4, .inr (.inr (.inl (sF S))))), (ht, .inl (E 0, 4, .inl (sT S))), (hq, .inl (E 0, 18, .inl (sW S))), (kh, .inr (4, [.ref ks, .ref kt, .ref kq, .int (nI (sD (hdS nw nf fl x (stN n r9 i) (jdS nw nf fl x n r9 S i)))), .int (sM (hdS nw nf fl x (stN n r9 i) (jdS nw nf fl x n r9 S i))), .float (sP (hdS nw nf fl x (stN n r9 i) (jdS nw nf fl x n r9 S i))), .int (sI (hdS nw nf fl x (stN n r9 i) (jdS nw nf fl x n r9 S i))), .int (sC (hdS nw nf fl x (stN n r9 i) (jdS nw nf fl x n r9 S i))), .int (sA (hdS nw nf fl x (stN n r9 i) (jdS nw nf fl x n r9 S i))), .int (sR (hdS nw nf fl x (stN n r9 i) (jdS nw nf fl x n r9 S i))), .int (nI (sK (hdS nw nf fl x (stN n r9 i) (jdS nw nf fl x n r9 S i))))])), (ks, .inl (E 1, 4, .inr (.inr (.inl (sF (hdS nw nf fl x (stN n r9 i) (jdS nw nf fl x n r9 S i))))))), (kt, .inl (E 0, 4, .inl (sT (hdS nw nf fl x (stN n r9 i) (jdS nw nf fl x n r9 S i))))), (kq, .inl (E 0, 18, .inl (sW (hdS nw nf fl x (stN n r9 i) (jdS nw nf fl x n r9 S i)))))] H locs := hw
      refine lv_if_ne (tgt := 57) hx hb dX5_judge_51 (by decide) (fun c_51 => ?_) (fun c_51 => ?_)
      · skip
        have k_51 := b2i_ne c_51
        refine lv_iinc (v := nI (i + 1)) (lv' := [(4, .int (nI (i + 1))), (0, .ref ob), (1, .int (nI n)), (2, .long (lN r9))]) hx hb dX5_judge_57 hl (k := 3) rfl (n_inc1 rfl) (by decide) rfl (fun ls hl => ?_)
        refine lv_goto (tgt := 34) hx hb dX5_judge_60 (by decide) ?_
        have hw : g_W D A s [(ob, .inr (5, [z0, .ref pl, .ref h, .ref kh, z4, z5, z6, z7, z8, z9, z10])), (pl, .inr (1, [.ref fa, .int (nI nf), .int (nI nw), .ref xa, .ref ba, .ref pa, .ref aa, .int (jS (hdJ nw nf fl x (stN n r9 i) (jdS nw nf fl x n r9 S i) J1)), .int (jN (hdJ nw nf fl x (stN n r9 i) (jdS nw nf fl x n r9 S i) J1)), .float (jH (hdJ nw nf fl x (stN n r9 i) (jdS nw nf fl x n r9 S i) J1))])), (fa, .inl (E 0, 18, .inl fl)), (xa, .inl (E 0, 3, .inl x)), (ba, .inl (E 0, 12, .inl (jB (hdJ nw nf fl x (stN n r9 i) (jdS nw nf fl x n r9 S i) J1)))), (pa, .inl (E 1, 4, .inr (.inr (.inl (jE (hdJ nw nf fl x (stN n r9 i) (jdS nw nf fl x n r9 S i) J1)))))), (aa, .inl (E 1, 4, .inr (.inr (.inl (jA (hdJ nw nf fl x (stN n r9 i) (jdS nw nf fl x n r9 S i) J1)))))), (h, .inr (4, [.ref hs, .ref ht, .ref hq, .int (nI (sD S)), .int (sM S), .float (sP S), .int (sI S), .int (sC S), .int (sA S), .int (sR S), .int (nI (sK S))])), (hs, .inl (E 1, 4, .inr (.inr (.inl (sF S))))), (ht, .inl (E 0, 4, .inl (sT S))), (hq, .inl (E 0, 18, .inl (sW S))), (kh, .inr (4, [.ref ks, .ref kt, .ref kq, .int (nI (sD (jdS nw nf fl x n r9 S (i + 1)))), .int (sM (jdS nw nf fl x n r9 S (i + 1))), .float (sP (jdS nw nf fl x n r9 S (i + 1))), .int (sI (jdS nw nf fl x n r9 S (i + 1))), .int (sC (jdS nw nf fl x n r9 S (i + 1))), .int (sA (jdS nw nf fl x n r9 S (i + 1))), .int (sR (jdS nw nf fl x n r9 S (i + 1))), .int (nI (sK (jdS nw nf fl x n r9 S (i + 1))))])), (ks, .inl (E 1, 4, .inr (.inr (.inl (sF (jdS nw nf fl x n r9 S (i + 1))))))), (kt, .inl (E 0, 4, .inl (sT (jdS nw nf fl x n r9 S (i + 1))))), (kq, .inl (E 0, 18, .inl (sW (jdS nw nf fl x n r9 S (i + 1)))))] H locs := by
          exact hw
        exact ih (i + 1) (by omega) (hdJ nw nf fl x (stN n r9 i) (jdS nw nf fl x n r9 S i) J1) (all_f hall (by rw [jdB, k_51]; rfl)) _ _ _ hw (lv_sub hl [1, 2, 3, 0] rfl)
      · skip
        have k_51 := b2i_eq c_51
        refine lv_iload hx hb dX5_judge_54 (lv_at hl 3 rfl) ?_
        exact g_iretE ((hdJ nw nf fl x (stN n r9 i) (jdS nw nf fl x n r9 S i) J1), (hdS nw nf fl x (stN n r9 i) (jdS nw nf fl x n r9 S i))) hQ hc hw hr (by exact congrArg (fun z => some (Value.int z)) (sfI_some hall (by rw [jdB, k_51]; rfl) (by omega))) rfl dX5_judge_56
  have hw : g_W D A s [(ob, .inr (5, [z0, .ref pl, .ref h, .ref kh, z4, z5, z6, z7, z8, z9, z10])), (pl, .inr (1, [.ref fa, .int (nI nf), .int (nI nw), .ref xa, .ref ba, .ref pa, .ref aa, .int (jS J), .int (jN J), .float (jH J)])), (fa, .inl (E 0, 18, .inl fl)), (xa, .inl (E 0, 3, .inl x)), (ba, .inl (E 0, 12, .inl (jB J))), (pa, .inl (E 1, 4, .inr (.inr (.inl (jE J))))), (aa, .inl (E 1, 4, .inr (.inr (.inl (jA J))))), (h, .inr (4, [.ref hs, .ref ht, .ref hq, .int (nI (sD S)), .int (sM S), .float (sP S), .int (sI S), .int (sC S), .int (sA S), .int (sR S), .int (nI (sK S))])), (hs, .inl (E 1, 4, .inr (.inr (.inl (sF S))))), (ht, .inl (E 0, 4, .inl (sT S))), (hq, .inl (E 0, 18, .inl (sW S))), (kh, .inr (4, [.ref ks, .ref kt, .ref kq, .int (nI (sD (jdS nw nf fl x n r9 S 0))), .int (sM (jdS nw nf fl x n r9 S 0)), .float (sP (jdS nw nf fl x n r9 S 0)), .int (sI (jdS nw nf fl x n r9 S 0)), .int (sC (jdS nw nf fl x n r9 S 0)), .int (sA (jdS nw nf fl x n r9 S 0)), .int (sR (jdS nw nf fl x n r9 S 0)), .int (nI (sK (jdS nw nf fl x n r9 S 0)))])), (ks, .inl (E 1, 4, .inr (.inr (.inl (sF (jdS nw nf fl x n r9 S 0)))))), (kt, .inl (E 0, 4, .inl (sT (jdS nw nf fl x n r9 S 0)))), (kq, .inl (E 0, 18, .inl (sW (jdS nw nf fl x n r9 S 0))))] H locs := by
    exact hw
  exact J34 n 0 (by omega) J (fun j hj => absurd hj (Nat.not_lt_zero j)) _ _ _ hw (lv_sub hl [1, 2, 3, 0] rfl)

theorem dX5_which_0 : decode cX5_which 0 = .ok (.iconst 0, 1) := by decide +kernel
theorem dX5_which_1 : decode cX5_which 1 = .ok (.istore_n 1, 1) := by decide +kernel
theorem dX5_which_2 : decode cX5_which 2 = .ok (.iconst 0, 1) := by decide +kernel
theorem dX5_which_3 : decode cX5_which 3 = .ok (.istore_n 2, 1) := by decide +kernel
theorem dX5_which_4 : decode cX5_which 4 = .ok (.iload_n 2, 1) := by decide +kernel
theorem dX5_which_5 : decode cX5_which 5 = .ok (.iconst 4, 1) := by decide +kernel
theorem dX5_which_6 : decode cX5_which 6 = .ok (.if_icmp .ge 34, 3) := by decide +kernel
theorem dX5_which_9 : decode cX5_which 9 = .ok (.aload_n 0, 1) := by decide +kernel
theorem dX5_which_10 : decode cX5_which 10 = .ok (.getfield 26, 3) := by decide +kernel
theorem dX5_which_13 : decode cX5_which 13 = .ok (.iload_n 2, 1) := by decide +kernel
theorem dX5_which_14 : decode cX5_which 14 = .ok (.invokevirtual 103, 3) := by decide +kernel
theorem dX5_which_17 : decode cX5_which 17 = .ok (.ifCond .ne 17, 3) := by decide +kernel
theorem dX5_which_20 : decode cX5_which 20 = .ok (.aload_n 0, 1) := by decide +kernel
theorem dX5_which_21 : decode cX5_which 21 = .ok (.iload_n 2, 1) := by decide +kernel
theorem dX5_which_22 : decode cX5_which 22 = .ok (.invokevirtual 232, 3) := by decide +kernel
theorem dX5_which_25 : decode cX5_which 25 = .ok (.ifCond .eq 9, 3) := by decide +kernel
theorem dX5_which_28 : decode cX5_which 28 = .ok (.iload_n 1, 1) := by decide +kernel
theorem dX5_which_29 : decode cX5_which 29 = .ok (.iconst 1, 1) := by decide +kernel
theorem dX5_which_30 : decode cX5_which 30 = .ok (.iload_n 2, 1) := by decide +kernel
theorem dX5_which_31 : decode cX5_which 31 = .ok (.ishl, 1) := by decide +kernel
theorem dX5_which_32 : decode cX5_which 32 = .ok (.ior, 1) := by decide +kernel
theorem dX5_which_33 : decode cX5_which 33 = .ok (.istore_n 1, 1) := by decide +kernel
theorem dX5_which_34 : decode cX5_which 34 = .ok (.iinc 2 1, 3) := by decide +kernel
theorem dX5_which_37 : decode cX5_which 37 = .ok (.goto (-33), 3) := by decide +kernel
theorem dX5_which_40 : decode cX5_which 40 = .ok (.iload_n 1, 1) := by decide +kernel
theorem dX5_which_41 : decode cX5_which 41 = .ok (.ireturn, 1) := by decide +kernel
set_option maxRecDepth 20000 in
theorem ggX5_which_X4_isDead : GoodIn wsX5_which wsX4_isDead := goodIn_r _ [5, 6, 149, 150, 151, 152, 153, 154, 155, 156, 157, 158, 159] rfl (by decide +kernel)
set_option maxRecDepth 20000 in
theorem ggX5_which_X5_explainsAll : GoodIn wsX5_which wsX5_explainsAll := goodIn_r _ [11, 12, 13, 14, 15, 16, 17, 18, 10, 19, 1, 20, 3, 21, 22, 23, 24, 25, 26, 27, 28, 29, 6, 30, 31, 32, 33, 34, 35, 36, 37, 38, 39, 40, 41, 42, 43, 44, 45, 46, 47, 48, 49, 50, 51, 52, 53, 54, 55, 56, 57, 58, 59, 60, 61, 62, 63, 64, 65, 66, 67, 68, 2, 4, 5, 69, 70, 71, 72, 73, 74, 75, 76, 77, 78, 79, 80, 81, 82, 83, 84, 85, 86, 87, 88, 89, 90, 91, 92, 93, 94, 95, 96, 97, 98, 99, 100, 101, 102, 103, 104, 105, 106, 107, 108, 109, 110, 111, 112, 113, 114, 115, 116, 117, 118, 119, 120, 121, 122, 123, 124, 125, 126, 127, 128, 129, 130, 131, 132, 133, 134, 135, 136, 137, 138, 139, 140, 141, 142, 143, 144, 145, 146, 147, 148, 160, 161, 162, 163, 149, 150, 151, 152, 153, 154, 155, 156, 157, 158, 159, 164, 165, 166, 167, 168, 169, 170, 171, 172, 173] rfl (by decide +kernel)
set_option maxRecDepth 20000 in
theorem gX5_which_X5_explainsAll : GoodIn wsX5_which (wsV RX5 232 RX5 yX5_explainsAll wsX5_explainsAll) := goodIn_app (goodIn_of _ (by decide +kernel)) ggX5_which_X5_explainsAll
theorem inX5_which_X5 : ∀ w ∈ u_ws RX5 TX5 11, w ∈ wsX5_which := fun w h => List.mem_cons_of_mem _ (List.mem_append_left _ (List.mem_append_left _ (List.mem_append_left _ (List.mem_append_right _ h))))
set_option maxRecDepth 100000 in
set_option maxHeartbeats 4000000 in
theorem m_X5_which {l : Launch} {D : va_G} {E : Nat → ClassId} {T : Nat → Nat} (pl : Nat) (fa : Nat) (nf : Nat) (nw : Nat) (xa : Nat) (ba : Nat) (pa : Nat) (aa : Nat) (fl : Nat → Int32) (x : Nat → Int32) (J : PJ) (h : Nat) (hs : Nat) (ht : Nat) (hq : Nat) (S : TS) (B : Nat) (ob : Nat) (kh : Nat) (ks : Nat) (kt : Nat) (kq : Nat) (z0 : Value) (z4 : Value) (z5 : Value) (z6 : Value) (z8 : Value) (z10 : Value) (cn : Nat) (ga : Nat) (gA : Nat → Nat) (O9 : Nat → Nat × Nat × Nat × Bool) (U : TS) (hok : OkS B S) (hB : B + 9 < 2 ^ 31) (hnw : nw ≤ 6) (hnf : nf ≤ 6) (hcn : cn ≤ 6) (hob : ∀ k, (O9 k).1 ≤ 9 ∧ (O9 k).2.1 ≤ 2 ∧ (O9 k).2.2.1 ≤ 99 ∧ ((O9 k).2.1 = 2 → (O9 k).2.2.1 < 4)) : g_ME l D E T yX5_which wsX5_which 6 146 [.ref ob] [(ob, .inr (5, [z0, .ref pl, .ref h, .ref kh, z4, z5, z6, .ref ga, z8, .int (nI cn), z10])), (pl, .inr (1, [.ref fa, .int (nI nf), .int (nI nw), .ref xa, .ref ba, .ref pa, .ref aa, .int (jS J), .int (jN J), .float (jH J)])), (fa, .inl (E 0, 18, .inl fl)), (xa, .inl (E 0, 3, .inl x)), (ba, .inl (E 0, 12, .inl (jB J))), (pa, .inl (E 1, 4, .inr (.inr (.inl (jE J))))), (aa, .inl (E 1, 4, .inr (.inr (.inl (jA J))))), (h, .inr (4, [.ref hs, .ref ht, .ref hq, .int (nI (sD S)), .int (sM S), .float (sP S), .int (sI S), .int (sC S), .int (sA S), .int (sR S), .int (nI (sK S))])), (hs, .inl (E 1, 4, .inr (.inr (.inl (sF S))))), (ht, .inl (E 0, 4, .inl (sT S))), (hq, .inl (E 0, 18, .inl (sW S))), (kh, .inr (4, [.ref ks, .ref kt, .ref kq, .int (nI (sD U)), .int (sM U), .float (sP U), .int (sI U), .int (sC U), .int (sA U), .int (sR U), .int (nI (sK U))])), (ks, .inl (E 1, 4, .inr (.inr (.inl (sF U))))), (kt, .inl (E 0, 4, .inl (sT U))), (kq, .inl (E 0, 18, .inl (sW U))), (ga, .inl (E 5, 6, .inr (.inr (.inr (.inr (fun k => some (gA k))))))), ((gA 0), .inr (3, [.int (nI ((O9 0).1)), .int (nI ((O9 0).2.1)), .int (nI ((O9 0).2.2.1)), .int (b2i ((O9 0).2.2.2))])), ((gA 1), .inr (3, [.int (nI ((O9 1).1)), .int (nI ((O9 1).2.1)), .int (nI ((O9 1).2.2.1)), .int (b2i ((O9 1).2.2.2))])), ((gA 2), .inr (3, [.int (nI ((O9 2).1)), .int (nI ((O9 2).2.1)), .int (nI ((O9 2).2.2.1)), .int (b2i ((O9 2).2.2.2))])), ((gA 3), .inr (3, [.int (nI ((O9 3).1)), .int (nI ((O9 3).2.1)), .int (nI ((O9 3).2.2.1)), .int (b2i ((O9 3).2.2.2))])), ((gA 4), .inr (3, [.int (nI ((O9 4).1)), .int (nI ((O9 4).2.1)), .int (nI ((O9 4).2.2.1)), .int (b2i ((O9 4).2.2.2))])), ((gA 5), .inr (3, [.int (nI ((O9 5).1)), .int (nI ((O9 5).2.1)), .int (nI ((O9 5).2.2.1)), .int (b2i ((O9 5).2.2.2))]))] (fun (u9 : PJ × TS) => [(ob, .inr (5, [z0, .ref pl, .ref h, .ref kh, z4, z5, z6, .ref ga, z8, .int (nI cn), z10])), (pl, .inr (1, [.ref fa, .int (nI nf), .int (nI nw), .ref xa, .ref ba, .ref pa, .ref aa, .int (jS u9.1), .int (jN u9.1), .float (jH u9.1)])), (fa, .inl (E 0, 18, .inl fl)), (xa, .inl (E 0, 3, .inl x)), (ba, .inl (E 0, 12, .inl (jB u9.1))), (pa, .inl (E 1, 4, .inr (.inr (.inl (jE u9.1))))), (aa, .inl (E 1, 4, .inr (.inr (.inl (jA u9.1))))), (h, .inr (4, [.ref hs, .ref ht, .ref hq, .int (nI (sD S)), .int (sM S), .float (sP S), .int (sI S), .int (sC S), .int (sA S), .int (sR S), .int (nI (sK S))])), (hs, .inl (E 1, 4, .inr (.inr (.inl (sF S))))), (ht, .inl (E 0, 4, .inl (sT S))), (hq, .inl (E 0, 18, .inl (sW S))), (kh, .inr (4, [.ref ks, .ref kt, .ref kq, .int (nI (sD u9.2)), .int (sM u9.2), .float (sP u9.2), .int (sI u9.2), .int (sC u9.2), .int (sA u9.2), .int (sR u9.2), .int (nI (sK u9.2))])), (ks, .inl (E 1, 4, .inr (.inr (.inl (sF u9.2))))), (kt, .inl (E 0, 4, .inl (sT u9.2))), (kq, .inl (E 0, 18, .inl (sW u9.2))), (ga, .inl (E 5, 6, .inr (.inr (.inr (.inr (fun k => some (gA k))))))), ((gA 0), .inr (3, [.int (nI ((O9 0).1)), .int (nI ((O9 0).2.1)), .int (nI ((O9 0).2.2.1)), .int (b2i ((O9 0).2.2.2))])), ((gA 1), .inr (3, [.int (nI ((O9 1).1)), .int (nI ((O9 1).2.1)), .int (nI ((O9 1).2.2.1)), .int (b2i ((O9 1).2.2.2))])), ((gA 2), .inr (3, [.int (nI ((O9 2).1)), .int (nI ((O9 2).2.1)), .int (nI ((O9 2).2.2.1)), .int (b2i ((O9 2).2.2.2))])), ((gA 3), .inr (3, [.int (nI ((O9 3).1)), .int (nI ((O9 3).2.1)), .int (nI ((O9 3).2.2.1)), .int (b2i ((O9 3).2.2.2))])), ((gA 4), .inr (3, [.int (nI ((O9 4).1)), .int (nI ((O9 4).2.1)), .int (nI ((O9 4).2.2.1)), .int (b2i ((O9 4).2.2.2))])), ((gA 5), .inr (3, [.int (nI ((O9 5).1)), .int (nI ((O9 5).2.1)), .int (nI ((O9 5).2.2.1)), .int (b2i ((O9 5).2.2.2))]))]) (some (.int (wcA nw nf fl x S O9 cn 4))) := by
  refine g_ME.of (cc := cX5_which) (nL := 3) (ret := (some .int)) (own := RX5) (lv := [(0, .ref ob)]) (by decide) rfl rfl (Nat.le_of_ble_eq_true rfl) rfl ?_
  intro p e R s m args below meth c A Q H locs ls hR hQ hc hr hw hl
  have hx := hc.1
  have hb := hc.2.1
  have hts := hc.2.2.2.1
  have hown := hc.2.2.2.2.1
  refine lv_iconst (v := 0) hx hb dX5_which_0 (by decide) ?_
  refine lv_istore_n (lv' := [(1, .int 0), (0, .ref ob)]) hx hb dX5_which_1 rfl hl (by decide) rfl (fun ls hl => ?_)
  refine lv_iconst (v := 0) hx hb dX5_which_2 (by decide) ?_
  refine lv_istore_n (lv' := [(2, .int 0), (1, .int 0), (0, .ref ob)]) hx hb dX5_which_3 rfl hl (by decide) rfl (fun ls hl => ?_)
  have J4 : ∀ (k9 : Nat) (i : Nat), i + k9 = 4 → ∀ (J1 : PJ) (S1 : TS), ∀ (H : Heap) (locs : List Loc) (ls : Array Slot), g_W D A s [(ob, .inr (5, [z0, .ref pl, .ref h, .ref kh, z4, z5, z6, .ref ga, z8, .int (nI cn), z10])), (pl, .inr (1, [.ref fa, .int (nI nf), .int (nI nw), .ref xa, .ref ba, .ref pa, .ref aa, .int (jS J1), .int (jN J1), .float (jH J1)])), (fa, .inl (E 0, 18, .inl fl)), (xa, .inl (E 0, 3, .inl x)), (ba, .inl (E 0, 12, .inl (jB J1))), (pa, .inl (E 1, 4, .inr (.inr (.inl (jE J1))))), (aa, .inl (E 1, 4, .inr (.inr (.inl (jA J1))))), (h, .inr (4, [.ref hs, .ref ht, .ref hq, .int (nI (sD S)), .int (sM S), .float (sP S), .int (sI S), .int (sC S), .int (sA S), .int (sR S), .int (nI (sK S))])), (hs, .inl (E 1, 4, .inr (.inr (.inl (sF S))))), (ht, .inl (E 0, 4, .inl (sT S))), (hq, .inl (E 0, 18, .inl (sW S))), (kh, .inr (4, [.ref ks, .ref kt, .ref kq, .int (nI (sD S1)), .int (sM S1), .float (sP S1), .int (sI S1), .int (sC S1), .int (sA S1), .int (sR S1), .int (nI (sK S1))])), (ks, .inl (E 1, 4, .inr (.inr (.inl (sF S1))))), (kt, .inl (E 0, 4, .inl (sT S1))), (kq, .inl (E 0, 18, .inl (sW S1))), (ga, .inl (E 5, 6, .inr (.inr (.inr (.inr (fun k => some (gA k))))))), ((gA 0), .inr (3, [.int (nI ((O9 0).1)), .int (nI ((O9 0).2.1)), .int (nI ((O9 0).2.2.1)), .int (b2i ((O9 0).2.2.2))])), ((gA 1), .inr (3, [.int (nI ((O9 1).1)), .int (nI ((O9 1).2.1)), .int (nI ((O9 1).2.2.1)), .int (b2i ((O9 1).2.2.2))])), ((gA 2), .inr (3, [.int (nI ((O9 2).1)), .int (nI ((O9 2).2.1)), .int (nI ((O9 2).2.2.1)), .int (b2i ((O9 2).2.2.2))])), ((gA 3), .inr (3, [.int (nI ((O9 3).1)), .int (nI ((O9 3).2.1)), .int (nI ((O9 3).2.2.1)), .int (b2i ((O9 3).2.2.2))])), ((gA 4), .inr (3, [.int (nI ((O9 4).1)), .int (nI ((O9 4).2.1)), .int (nI ((O9 4).2.2.1)), .int (b2i ((O9 4).2.2.2))])), ((gA 5), .inr (3, [.int (nI ((O9 5).1)), .int (nI ((O9 5).2.1)), .int (nI ((O9 5).2.2.1)), .int (b2i ((O9 5).2.2.2))]))] H locs → lv_has ls 3 [(0, .ref ob), (1, .int (wcA nw nf fl x S O9 cn i)), (2, .int (nI i))] → W p l e R s m args below meth c H locs 0 0 Q (F0 m 4 ls []) := by
    intro k9
    induction k9 with
    | zero =>
      intro i h9 J1 S1  H locs ls hw hl
      have h9 : i = 4 := h9
      subst h9
      refine lv_iload_n hx hb dX5_which_4 rfl (lv_at hl 2 rfl) ?_
      refine lv_iconst (v := 4) hx hb dX5_which_5 (by decide) ?_
      refine lv_icmp_ge (tgt := 40) hx hb dX5_which_6 (by decide) (fun c_6 => ?_) (fun c_6 => absurd (by first | exact Int32.le_refl _ | decide) c_6)
      refine lv_iload_n hx hb dX5_which_40 rfl (lv_at hl 1 rfl) ?_
      exact g_iretE (J1, S1) hQ hc hw hr rfl rfl dX5_which_41
    | succ k9 ih =>
      intro i h9 J1 S1  H locs ls hw hl
      have h9b : i < 4 := by omega
      refine lv_iload_n hx hb dX5_which_4 rfl (lv_at hl 2 rfl) ?_
      refine lv_iconst (v := 4) hx hb dX5_which_5 (by decide) ?_
      refine lv_icmp_ge (tgt := 40) hx hb dX5_which_6 (by decide) (fun c_6 => absurd c_6 (nI_ge h9b (by decide))) (fun c_6 => ?_)
      refine lv_aload_n hx hb dX5_which_9 rfl (lv_at hl 0 rfl) ?_
      refine g_get (TT := TX5) hc hw inX5_which_X5 0 2 1 rfl rfl (by decide) rfl rfl dX5_which_10 ?_
      refine lv_iload_n hx hb dX5_which_13 rfl (lv_at hl 2 rfl) ?_
      refine g_cVN (As := [.int (nI i)]) (n := 1) (rest := []) (wc := [(h, .inr (4, [.ref hs, .ref ht, .ref hq, .int (nI (sD S)), .int (sM S), .float (sP S), .int (sI S), .int (sC S), .int (sA S), .int (sR S), .int (nI (sK S))]))]) (w1 := [(h, .inr (4, [.ref hs, .ref ht, .ref hq, .int (nI (sD S)), .int (sM S), .float (sP S), .int (sI S), .int (sC S), .int (sA S), .int (sR S), .int (nI (sK S))]))]) (bytes := cX4_isDead) (maxL := 2) (ret := (some .boolean)) hc hw hl.1 (m_X4_isDead (l := l) (D := D) (E := E) (T := T) h (.ref hs) (.ref ht) (.ref hq) (.int (sM S)) (.float (sP S)) (.int (sI S)) (.int (sC S)) (.int (sA S)) (.int (sR S)) (.int (nI (sK S))) (sD S) i hok.d (by omega)) ggX5_which_X4_isDead rfl 52 rfl 3 2 4 rfl rfl rfl (by decide +kernel) (by rw [hR]; exact ⟨Nat.le_of_ble_eq_true rfl, Nat.le_of_ble_eq_true rfl⟩) [7] 7 4 rfl rfl (by decide) rfl [h] rfl rfl rfl rfl (Nat.le_of_ble_eq_true rfl) dX5_which_14 ⟨Nat.zero_le _, Nat.zero_le _⟩ (fun H locs hw => ?_)
      have hw : g_W D A s [(ob, .inr (5, [z0, .ref pl, .ref h, .ref kh, z4, z5, z6, .ref ga, z8, .int (nI cn), z10])), (pl, .inr (1, [.ref fa, .int (nI nf), .int (nI nw), .ref xa, .ref ba, .ref pa, .ref aa, .int (jS J1), .int (jN J1), .float (jH J1)])), (fa, .inl (E 0, 18, .inl fl)), (xa, .inl (E 0, 3, .inl x)), (ba, .inl (E 0, 12, .inl (jB J1))), (pa, .inl (E 1, 4, .inr (.inr (.inl (jE J1))))), (aa, .inl (E 1, 4, .inr (.inr (.inl (jA J1))))), (h, .inr (4, [.ref hs, .ref ht, .ref hq, .int (nI (sD S)), .int (sM S), .float (sP S), .int (sI S), .int (sC S), .int (sA S), .int (sR S), .int (nI (sK S))])), (hs, .inl (E 1, 4, .inr (.inr (.inl (sF S))))), (ht, .inl (E 0, 4, .inl (sT S))), (hq, .inl (E 0, 18, .inl (sW S))), (kh, .inr (4, [.ref ks, .ref kt, .ref kq, .int (nI (sD S1)), .int (sM S1), .float (sP S1), .int (sI S1), .int (sC S1), .int (sA S1), .int (sR S1), .int (nI (sK S1))])), (ks, .inl (E 1, 4, .inr (.inr (.inl (sF S1))))), (kt, .inl (E 0, 4, .inl (sT S1))), (kq, .inl (E 0, 18, .inl (sW S1))), (ga, .inl (E 5, 6, .inr (.inr (.inr (.inr (fun k => some (gA k))))))), ((gA 0), .inr (3, [.int (nI ((O9 0).1)), .int (nI ((O9 0).2.1)), .int (nI ((O9 0).2.2.1)), .int (b2i ((O9 0).2.2.2))])), ((gA 1), .inr (3, [.int (nI ((O9 1).1)), .int (nI ((O9 1).2.1)), .int (nI ((O9 1).2.2.1)), .int (b2i ((O9 1).2.2.2))])), ((gA 2), .inr (3, [.int (nI ((O9 2).1)), .int (nI ((O9 2).2.1)), .int (nI ((O9 2).2.2.1)), .int (b2i ((O9 2).2.2.2))])), ((gA 3), .inr (3, [.int (nI ((O9 3).1)), .int (nI ((O9 3).2.1)), .int (nI ((O9 3).2.2.1)), .int (b2i ((O9 3).2.2.2))])), ((gA 4), .inr (3, [.int (nI ((O9 4).1)), .int (nI ((O9 4).2.1)), .int (nI ((O9 4).2.2.1)), .int (b2i ((O9 4).2.2.2))])), ((gA 5), .inr (3, [.int (nI ((O9 5).1)), .int (nI ((O9 5).2.1)), .int (nI ((O9 5).2.2.1)), .int (b2i ((O9 5).2.2.2))]))] H locs := hw
      refine lv_if_ne (tgt := 34) hx hb dX5_which_17 (by decide) (fun c_17 => ?_) (fun c_17 => ?_)
      · skip
        have k_17 := b2i_ne c_17
        refine lv_iinc (v := nI (i + 1)) (lv' := [(2, .int (nI (i + 1))), (0, .ref ob), (1, .int (wcA nw nf fl x S O9 cn i))]) hx hb dX5_which_34 hl (k := 2) rfl (n_inc1 rfl) (by decide) rfl (fun ls hl => ?_)
        refine lv_goto (tgt := 4) hx hb dX5_which_37 (by decide) ?_
        have hl := lv_conv hl 2 rfl (v' := (.int (wcA nw nf fl x S O9 cn (i + 1)))) (by exact congrArg Value.int ((if_neg (fun q => by rw [k_17] at q; exact absurd q.1 (by decide))).symm))
        have hl : lv_has ls 3 [(2, .int (nI (i + 1))), (0, .ref ob), (1, .int (wcA nw nf fl x S O9 cn (i + 1)))] := hl
        exact ih (i + 1) (by omega) J1 S1  _ _ _ hw (lv_sub hl [1, 2, 0] rfl)
      · skip
        have k_17 := b2i_eq c_17
        refine lv_aload_n hx hb dX5_which_20 rfl (lv_at hl 0 rfl) ?_
        refine lv_iload_n hx hb dX5_which_21 rfl (lv_at hl 2 rfl) ?_
        refine g_cEV (As := [.int (nI i)]) (n := 1) (rest := []) (wc := [(ob, .inr (5, [z0, .ref pl, .ref h, .ref kh, z4, z5, z6, .ref ga, z8, .int (nI cn), z10])), (pl, .inr (1, [.ref fa, .int (nI nf), .int (nI nw), .ref xa, .ref ba, .ref pa, .ref aa, .int (jS J1), .int (jN J1), .float (jH J1)])), (fa, .inl (E 0, 18, .inl fl)), (xa, .inl (E 0, 3, .inl x)), (ba, .inl (E 0, 12, .inl (jB J1))), (pa, .inl (E 1, 4, .inr (.inr (.inl (jE J1))))), (aa, .inl (E 1, 4, .inr (.inr (.inl (jA J1))))), (h, .inr (4, [.ref hs, .ref ht, .ref hq, .int (nI (sD S)), .int (sM S), .float (sP S), .int (sI S), .int (sC S), .int (sA S), .int (sR S), .int (nI (sK S))])), (hs, .inl (E 1, 4, .inr (.inr (.inl (sF S))))), (ht, .inl (E 0, 4, .inl (sT S))), (hq, .inl (E 0, 18, .inl (sW S))), (kh, .inr (4, [.ref ks, .ref kt, .ref kq, .int (nI (sD S1)), .int (sM S1), .float (sP S1), .int (sI S1), .int (sC S1), .int (sA S1), .int (sR S1), .int (nI (sK S1))])), (ks, .inl (E 1, 4, .inr (.inr (.inl (sF S1))))), (kt, .inl (E 0, 4, .inl (sT S1))), (kq, .inl (E 0, 18, .inl (sW S1))), (ga, .inl (E 5, 6, .inr (.inr (.inr (.inr (fun k => some (gA k))))))), ((gA 0), .inr (3, [.int (nI ((O9 0).1)), .int (nI ((O9 0).2.1)), .int (nI ((O9 0).2.2.1)), .int (b2i ((O9 0).2.2.2))])), ((gA 1), .inr (3, [.int (nI ((O9 1).1)), .int (nI ((O9 1).2.1)), .int (nI ((O9 1).2.2.1)), .int (b2i ((O9 1).2.2.2))])), ((gA 2), .inr (3, [.int (nI ((O9 2).1)), .int (nI ((O9 2).2.1)), .int (nI ((O9 2).2.2.1)), .int (b2i ((O9 2).2.2.2))])), ((gA 3), .inr (3, [.int (nI ((O9 3).1)), .int (nI ((O9 3).2.1)), .int (nI ((O9 3).2.2.1)), .int (b2i ((O9 3).2.2.2))])), ((gA 4), .inr (3, [.int (nI ((O9 4).1)), .int (nI ((O9 4).2.1)), .int (nI ((O9 4).2.2.1)), .int (b2i ((O9 4).2.2.2))])), ((gA 5), .inr (3, [.int (nI ((O9 5).1)), .int (nI ((O9 5).2.1)), .int (nI ((O9 5).2.2.1)), .int (b2i ((O9 5).2.2.2))]))]) (w1 := (fun (u9 : PJ × TS) => [(ob, .inr (5, [z0, .ref pl, .ref h, .ref kh, z4, z5, z6, .ref ga, z8, .int (nI cn), z10])), (pl, .inr (1, [.ref fa, .int (nI nf), .int (nI nw), .ref xa, .ref ba, .ref pa, .ref aa, .int (jS u9.1), .int (jN u9.1), .float (jH u9.1)])), (fa, .inl (E 0, 18, .inl fl)), (xa, .inl (E 0, 3, .inl x)), (ba, .inl (E 0, 12, .inl (jB u9.1))), (pa, .inl (E 1, 4, .inr (.inr (.inl (jE u9.1))))), (aa, .inl (E 1, 4, .inr (.inr (.inl (jA u9.1))))), (h, .inr (4, [.ref hs, .ref ht, .ref hq, .int (nI (sD S)), .int (sM S), .float (sP S), .int (sI S), .int (sC S), .int (sA S), .int (sR S), .int (nI (sK S))])), (hs, .inl (E 1, 4, .inr (.inr (.inl (sF S))))), (ht, .inl (E 0, 4, .inl (sT S))), (hq, .inl (E 0, 18, .inl (sW S))), (kh, .inr (4, [.ref ks, .ref kt, .ref kq, .int (nI (sD u9.2)), .int (sM u9.2), .float (sP u9.2), .int (sI u9.2), .int (sC u9.2), .int (sA u9.2), .int (sR u9.2), .int (nI (sK u9.2))])), (ks, .inl (E 1, 4, .inr (.inr (.inl (sF u9.2))))), (kt, .inl (E 0, 4, .inl (sT u9.2))), (kq, .inl (E 0, 18, .inl (sW u9.2))), (ga, .inl (E 5, 6, .inr (.inr (.inr (.inr (fun k => some (gA k))))))), ((gA 0), .inr (3, [.int (nI ((O9 0).1)), .int (nI ((O9 0).2.1)), .int (nI ((O9 0).2.2.1)), .int (b2i ((O9 0).2.2.2))])), ((gA 1), .inr (3, [.int (nI ((O9 1).1)), .int (nI ((O9 1).2.1)), .int (nI ((O9 1).2.2.1)), .int (b2i ((O9 1).2.2.2))])), ((gA 2), .inr (3, [.int (nI ((O9 2).1)), .int (nI ((O9 2).2.1)), .int (nI ((O9 2).2.2.1)), .int (b2i ((O9 2).2.2.2))])), ((gA 3), .inr (3, [.int (nI ((O9 3).1)), .int (nI ((O9 3).2.1)), .int (nI ((O9 3).2.2.1)), .int (b2i ((O9 3).2.2.2))])), ((gA 4), .inr (3, [.int (nI ((O9 4).1)), .int (nI ((O9 4).2.1)), .int (nI ((O9 4).2.2.1)), .int (b2i ((O9 4).2.2.2))])), ((gA 5), .inr (3, [.int (nI ((O9 5).1)), .int (nI ((O9 5).2.1)), .int (nI ((O9 5).2.2.1)), .int (b2i ((O9 5).2.2.2))]))])) (bytes := cX5_explainsAll) (maxL := 4) (ret := (some .boolean)) hc hw hl.1 (m_X5_explainsAll (l := l) (D := D) (E := E) (T := T) pl fa nf nw xa ba pa aa fl x J1 h hs ht hq S B ob kh ks kt kq z0 z4 z5 z6 z8 z10 cn ga i gA O9 S1 (by first | assumption | omega | decide) (by first | assumption | omega | decide) (by first | assumption | omega | decide) (by first | assumption | omega | decide) (by omega) (by first | assumption | omega | decide) (by first | assumption | omega | decide)) gX5_which_X5_explainsAll rfl (by decide +kernel) (by rw [hR]; exact ⟨Nat.le_of_ble_eq_true rfl, Nat.le_of_ble_eq_true rfl⟩) [0, 1, 2, 3, 4, 5, 6, 7, 8, 9, 10, 11, 12, 13, 14, 15, 16, 17, 18, 19, 20, 21] 0 5 rfl rfl (by decide) rfl [ob, pl, fa, xa, ba, pa, aa, h, hs, ht, hq, kh, ks, kt, kq, ga, (gA 0), (gA 1), (gA 2), (gA 3), (gA 4), (gA 5)] (fun _ => rfl) rfl rfl rfl (Nat.le_of_ble_eq_true rfl) dX5_which_22 ⟨Nat.zero_le _, Nat.zero_le _⟩ (fun u_1 H locs hw => ?_)
        obtain ⟨J1_u_1, S1_u_1⟩ := u_1
        have hw : g_W D A s [(ob, .inr (5, [z0, .ref pl, .ref h, .ref kh, z4, z5, z6, .ref ga, z8, .int (nI cn), z10])), (pl, .inr (1, [.ref fa, .int (nI nf), .int (nI nw), .ref xa, .ref ba, .ref pa, .ref aa, .int (jS J1_u_1), .int (jN J1_u_1), .float (jH J1_u_1)])), (fa, .inl (E 0, 18, .inl fl)), (xa, .inl (E 0, 3, .inl x)), (ba, .inl (E 0, 12, .inl (jB J1_u_1))), (pa, .inl (E 1, 4, .inr (.inr (.inl (jE J1_u_1))))), (aa, .inl (E 1, 4, .inr (.inr (.inl (jA J1_u_1))))), (h, .inr (4, [.ref hs, .ref ht, .ref hq, .int (nI (sD S)), .int (sM S), .float (sP S), .int (sI S), .int (sC S), .int (sA S), .int (sR S), .int (nI (sK S))])), (hs, .inl (E 1, 4, .inr (.inr (.inl (sF S))))), (ht, .inl (E 0, 4, .inl (sT S))), (hq, .inl (E 0, 18, .inl (sW S))), (kh, .inr (4, [.ref ks, .ref kt, .ref kq, .int (nI (sD S1_u_1)), .int (sM S1_u_1), .float (sP S1_u_1), .int (sI S1_u_1), .int (sC S1_u_1), .int (sA S1_u_1), .int (sR S1_u_1), .int (nI (sK S1_u_1))])), (ks, .inl (E 1, 4, .inr (.inr (.inl (sF S1_u_1))))), (kt, .inl (E 0, 4, .inl (sT S1_u_1))), (kq, .inl (E 0, 18, .inl (sW S1_u_1))), (ga, .inl (E 5, 6, .inr (.inr (.inr (.inr (fun k => some (gA k))))))), ((gA 0), .inr (3, [.int (nI ((O9 0).1)), .int (nI ((O9 0).2.1)), .int (nI ((O9 0).2.2.1)), .int (b2i ((O9 0).2.2.2))])), ((gA 1), .inr (3, [.int (nI ((O9 1).1)), .int (nI ((O9 1).2.1)), .int (nI ((O9 1).2.2.1)), .int (b2i ((O9 1).2.2.2))])), ((gA 2), .inr (3, [.int (nI ((O9 2).1)), .int (nI ((O9 2).2.1)), .int (nI ((O9 2).2.2.1)), .int (b2i ((O9 2).2.2.2))])), ((gA 3), .inr (3, [.int (nI ((O9 3).1)), .int (nI ((O9 3).2.1)), .int (nI ((O9 3).2.2.1)), .int (b2i ((O9 3).2.2.2))])), ((gA 4), .inr (3, [.int (nI ((O9 4).1)), .int (nI ((O9 4).2.1)), .int (nI ((O9 4).2.2.1)), .int (b2i ((O9 4).2.2.2))])), ((gA 5), .inr (3, [.int (nI ((O9 5).1)), .int (nI ((O9 5).2.1)), .int (nI ((O9 5).2.2.1)), .int (b2i ((O9 5).2.2.2))]))] H locs := g_sid (n := 22) rfl rfl rfl hw
        refine lv_if_eq (tgt := 34) hx hb dX5_which_25 (by decide) (fun c_25 => ?_) (fun c_25 => ?_)
        · skip
          have k_25 := b2i_eq c_25
          refine lv_iinc (v := nI (i + 1)) (lv' := [(2, .int (nI (i + 1))), (0, .ref ob), (1, .int (wcA nw nf fl x S O9 cn i))]) hx hb dX5_which_34 hl (k := 2) rfl (n_inc1 rfl) (by decide) rfl (fun ls hl => ?_)
          refine lv_goto (tgt := 4) hx hb dX5_which_37 (by decide) ?_
          have hl := lv_conv hl 2 rfl (v' := (.int (wcA nw nf fl x S O9 cn (i + 1)))) (by exact congrArg Value.int ((if_neg (fun q => by rw [k_25] at q; exact absurd q.2 (by decide))).symm))
          have hl : lv_has ls 3 [(2, .int (nI (i + 1))), (0, .ref ob), (1, .int (wcA nw nf fl x S O9 cn (i + 1)))] := hl
          exact ih (i + 1) (by omega) J1_u_1 S1_u_1  _ _ _ hw (lv_sub hl [1, 2, 0] rfl)
        · skip
          have k_25 := b2i_ne c_25
          refine lv_iload_n hx hb dX5_which_28 rfl (lv_at hl 1 rfl) ?_
          refine lv_iconst (v := 1) hx hb dX5_which_29 (by decide) ?_
          refine lv_iload_n hx hb dX5_which_30 rfl (lv_at hl 2 rfl) ?_
          refine lv_ishl hx hb dX5_which_31 ?_
          refine lv_ior hx hb dX5_which_32 ?_
          refine lv_istore_n (lv' := [(1, .int ((wcA nw nf fl x S O9 cn i) ||| ((1 : Int32) <<< ((nI i) &&& 31)))), (0, .ref ob), (2, .int (nI i))]) hx hb dX5_which_33 rfl hl (by decide) rfl (fun ls hl => ?_)
          refine lv_iinc (v := nI (i + 1)) (lv' := [(2, .int (nI (i + 1))), (1, .int ((wcA nw nf fl x S O9 cn i) ||| ((1 : Int32) <<< ((nI i) &&& 31)))), (0, .ref ob)]) hx hb dX5_which_34 hl (k := 2) rfl (n_inc1 rfl) (by decide) rfl (fun ls hl => ?_)
          refine lv_goto (tgt := 4) hx hb dX5_which_37 (by decide) ?_
          have hl := lv_conv hl 1 rfl (v' := (.int (wcA nw nf fl x S O9 cn (i + 1)))) (by exact congrArg Value.int ((if_pos ⟨k_17, k_25⟩).symm))
          have hl : lv_has ls 3 [(2, .int (nI (i + 1))), (1, .int (wcA nw nf fl x S O9 cn (i + 1))), (0, .ref ob)] := hl
          exact ih (i + 1) (by omega) J1_u_1 S1_u_1  _ _ _ hw (lv_sub hl [2, 1, 0] rfl)
  exact J4 4 0 (by omega) J U  _ _ _ hw (lv_sub hl [2, 1, 0] rfl)
end P19b
