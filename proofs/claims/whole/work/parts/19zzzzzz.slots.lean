section P19f
theorem dX5_keep_0 : decode cX5_keep 0 = .ok (.iload_n 1, 1) := by decide +kernel
theorem dX5_keep_1 : decode cX5_keep 1 = .ok (.iconst 0, 1) := by decide +kernel
theorem dX5_keep_2 : decode cX5_keep 2 = .ok (.iconst 1, 1) := by decide +kernel
theorem dX5_keep_3 : decode cX5_keep 3 = .ok (.invokestatic 59, 3) := by decide +kernel
theorem dX5_keep_6 : decode cX5_keep 6 = .ok (.ifCond .eq 5, 3) := by decide +kernel
theorem dX5_keep_9 : decode cX5_keep 9 = .ok (.iconst (-1), 1) := by decide +kernel
theorem dX5_keep_10 : decode cX5_keep 10 = .ok (.ireturn, 1) := by decide +kernel
set_option maxRecDepth 20000 in
theorem ggX5_keep_X5_outside : GoodIn wsX5_keep wsX5_outside := goodIn_r _ [7] rfl (by decide +kernel)
set_option maxRecDepth 20000 in
theorem gX5_keep_X5_outside : GoodIn wsX5_keep (va_wsS RX5 59 yX5_outside wsX5_outside) := goodIn_app (goodIn_of _ (by decide +kernel)) ggX5_keep_X5_outside
set_option maxRecDepth 100000 in
set_option maxHeartbeats 4000000 in
theorem m_X5_keep_out {l : Launch} {D : va_G} {E : Nat → ClassId} {T : Nat → Nat} (ob : Nat) (z0 : Value) (z1 : Value) (z2 : Value) (z3 : Value) (z4 : Value) (z5 : Value) (z6 : Value) (z7 : Value) (z8 : Value) (z9 : Value) (z10 : Value) (v : Int32) (ho : outB v 0 1 = true) : g_M l D E T yX5_keep wsX5_keep 1 22 [.ref ob, .int v] [(ob, .inr (5, [z0, z1, z2, z3, z4, z5, z6, z7, z8, z9, z10]))] [(ob, .inr (5, [z0, z1, z2, z3, z4, z5, z6, z7, z8, z9, z10]))] (some (.int (-1))) := by
  refine g_M.of (cc := cX5_keep) (nL := 2) (ret := (some .int)) (own := RX5) (lv := [(0, .ref ob), (1, .int v)]) (by decide) rfl rfl (Nat.le_of_ble_eq_true rfl) rfl ?_
  intro p e R s m args below meth c A Q H locs ls hR hQ hc hr hw hl
  have hx := hc.1
  have hb := hc.2.1
  have hts := hc.2.2.2.1
  have hown := hc.2.2.2.2.1
  refine lv_iload_n hx hb dX5_keep_0 rfl (lv_at hl 1 rfl) ?_
  refine lv_iconst (v := 0) hx hb dX5_keep_1 (by decide) ?_
  refine lv_iconst (v := 1) hx hb dX5_keep_2 (by decide) ?_
  refine g_cS (As := [.int v, .int 0, .int 1]) (n := 3) (rest := []) (wc := []) (w1 := []) (bytes := cX5_outside) (maxL := 3) (ret := (some .boolean)) hc hw hl.1 (m_X5_outside (l := l) (D := D) (E := E) (T := T) v 0 1) gX5_keep_X5_outside rfl (by decide +kernel) (by rw [hR]; exact ⟨Nat.le_of_ble_eq_true rfl, Nat.le_of_ble_eq_true rfl⟩) [] (by decide) rfl [] rfl rfl rfl rfl (Nat.le_of_ble_eq_true rfl) dX5_keep_3 ⟨Nat.zero_le _, Nat.zero_le _⟩ (fun H locs hw => ?_)
  have hw : g_W D A s [(ob, .inr (5, [z0, z1, z2, z3, z4, z5, z6, z7, z8, z9, z10]))] H locs := hw
  refine W.eq (congrArg (fun z => F0 m 6 ls (.int z :: [])) (show (b2i (outB v 0 1) : Int32) = 1 from (congrArg b2i ho))) ?_
  refine lv_if_eq (tgt := 11) hx hb dX5_keep_6 (by decide) (fun c_6 => absurd c_6 (by decide)) (fun c_6 => ?_)
  refine lv_iconst (v := (-1)) hx hb dX5_keep_9 (by decide) ?_
  exact g_iret hQ hc hw hr rfl rfl dX5_keep_10

theorem dX5_again_0 : decode cX5_again 0 = .ok (.iload_n 1, 1) := by decide +kernel
theorem dX5_again_1 : decode cX5_again 1 = .ok (.iconst 0, 1) := by decide +kernel
theorem dX5_again_2 : decode cX5_again 2 = .ok (.iconst 1, 1) := by decide +kernel
theorem dX5_again_3 : decode cX5_again 3 = .ok (.invokestatic 59, 3) := by decide +kernel
theorem dX5_again_6 : decode cX5_again 6 = .ok (.ifCond .eq 5, 3) := by decide +kernel
theorem dX5_again_9 : decode cX5_again 9 = .ok (.iconst (-1), 1) := by decide +kernel
theorem dX5_again_10 : decode cX5_again 10 = .ok (.ireturn, 1) := by decide +kernel
set_option maxRecDepth 20000 in
theorem ggX5_again_X5_outside : GoodIn wsX5_again wsX5_outside := goodIn_r _ [8] rfl (by decide +kernel)
set_option maxRecDepth 20000 in
theorem gX5_again_X5_outside : GoodIn wsX5_again (va_wsS RX5 59 yX5_outside wsX5_outside) := goodIn_app (goodIn_of _ (by decide +kernel)) ggX5_again_X5_outside
set_option maxRecDepth 100000 in
set_option maxHeartbeats 4000000 in
theorem m_X5_again_out {l : Launch} {D : va_G} {E : Nat → ClassId} {T : Nat → Nat} (ob : Nat) (z0 : Value) (z1 : Value) (z2 : Value) (z3 : Value) (z4 : Value) (z5 : Value) (z6 : Value) (z7 : Value) (z8 : Value) (z9 : Value) (z10 : Value) (v : Int32) (ho : outB v 0 1 = true) : g_M l D E T yX5_again wsX5_again 1 22 [.ref ob, .int v] [(ob, .inr (5, [z0, z1, z2, z3, z4, z5, z6, z7, z8, z9, z10]))] [(ob, .inr (5, [z0, z1, z2, z3, z4, z5, z6, z7, z8, z9, z10]))] (some (.int (-1))) := by
  refine g_M.of (cc := cX5_again) (nL := 2) (ret := (some .int)) (own := RX5) (lv := [(0, .ref ob), (1, .int v)]) (by decide) rfl rfl (Nat.le_of_ble_eq_true rfl) rfl ?_
  intro p e R s m args below meth c A Q H locs ls hR hQ hc hr hw hl
  have hx := hc.1
  have hb := hc.2.1
  have hts := hc.2.2.2.1
  have hown := hc.2.2.2.2.1
  refine lv_iload_n hx hb dX5_again_0 rfl (lv_at hl 1 rfl) ?_
  refine lv_iconst (v := 0) hx hb dX5_again_1 (by decide) ?_
  refine lv_iconst (v := 1) hx hb dX5_again_2 (by decide) ?_
  refine g_cS (As := [.int v, .int 0, .int 1]) (n := 3) (rest := []) (wc := []) (w1 := []) (bytes := cX5_outside) (maxL := 3) (ret := (some .boolean)) hc hw hl.1 (m_X5_outside (l := l) (D := D) (E := E) (T := T) v 0 1) gX5_again_X5_outside rfl (by decide +kernel) (by rw [hR]; exact ⟨Nat.le_of_ble_eq_true rfl, Nat.le_of_ble_eq_true rfl⟩) [] (by decide) rfl [] rfl rfl rfl rfl (Nat.le_of_ble_eq_true rfl) dX5_again_3 ⟨Nat.zero_le _, Nat.zero_le _⟩ (fun H locs hw => ?_)
  have hw : g_W D A s [(ob, .inr (5, [z0, z1, z2, z3, z4, z5, z6, z7, z8, z9, z10]))] H locs := hw
  refine W.eq (congrArg (fun z => F0 m 6 ls (.int z :: [])) (show (b2i (outB v 0 1) : Int32) = 1 from (congrArg b2i ho))) ?_
  refine lv_if_eq (tgt := 11) hx hb dX5_again_6 (by decide) (fun c_6 => absurd c_6 (by decide)) (fun c_6 => ?_)
  refine lv_iconst (v := (-1)) hx hb dX5_again_9 (by decide) ?_
  exact g_iret hQ hc hw hr rfl rfl dX5_again_10

theorem dX5_keep_11 : decode cX5_keep 11 = .ok (.aload_n 0, 1) := by decide +kernel
theorem dX5_keep_12 : decode cX5_keep 12 = .ok (.getfield 40, 3) := by decide +kernel
theorem dX5_keep_15 : decode cX5_keep 15 = .ok (.iload_n 1, 1) := by decide +kernel
theorem dX5_keep_16 : decode cX5_keep 16 = .ok (.aaload, 1) := by decide +kernel
theorem dX5_keep_17 : decode cX5_keep 17 = .ok (.aload_n 0, 1) := by decide +kernel
theorem dX5_keep_18 : decode cX5_keep 18 = .ok (.getfield 26, 3) := by decide +kernel
theorem dX5_keep_21 : decode cX5_keep 21 = .ok (.invokevirtual 272, 3) := by decide +kernel
theorem dX5_keep_24 : decode cX5_keep 24 = .ok (.aload_n 0, 1) := by decide +kernel
theorem dX5_keep_25 : decode cX5_keep 25 = .ok (.getfield 44, 3) := by decide +kernel
theorem dX5_keep_28 : decode cX5_keep 28 = .ok (.iload_n 1, 1) := by decide +kernel
theorem dX5_keep_29 : decode cX5_keep 29 = .ok (.iconst 1, 1) := by decide +kernel
theorem dX5_keep_30 : decode cX5_keep 30 = .ok (.bastore, 1) := by decide +kernel
theorem dX5_keep_31 : decode cX5_keep 31 = .ok (.aload_n 0, 1) := by decide +kernel
theorem dX5_keep_32 : decode cX5_keep 32 = .ok (.getfield 26, 3) := by decide +kernel
theorem dX5_keep_35 : decode cX5_keep 35 = .ok (.getfield 275, 3) := by decide +kernel
theorem dX5_keep_38 : decode cX5_keep 38 = .ok (.ireturn, 1) := by decide +kernel
set_option maxRecDepth 20000 in
theorem ggX5_keep_X4_copyFrom : GoodIn wsX5_keep wsX4_copyFrom := goodIn_r _ [11, 12, 13, 14, 15, 16, 17, 18, 19, 20, 21, 22, 23, 24, 25, 26, 38, 39, 40, 41, 42, 43, 44, 45, 46, 47, 48] rfl (by decide +kernel)
theorem inX5_keep_X4 : ∀ w ∈ u_ws RX4 TX4 11, w ∈ wsX5_keep := fun w h => List.mem_cons_of_mem _ (List.mem_append_right _ h)
theorem inX5_keep_X5 : ∀ w ∈ u_ws RX5 TX5 11, w ∈ wsX5_keep := fun w h => List.mem_cons_of_mem _ (List.mem_append_left _ (List.mem_append_right _ h))
set_option maxRecDepth 100000 in
set_option maxHeartbeats 4000000 in
theorem m_X5_keep_0 {l : Launch} {D : va_G} {E : Nat → ClassId} {T : Nat → Nat} (ob : Nat) (h : Nat) (hs : Nat) (ht : Nat) (hq : Nat) (z0 : Value) (z1 : Value) (z3 : Value) (z4 : Value) (z7 : Value) (z8 : Value) (z9 : Value) (z10 : Value) (sl : Nat) (sv : Nat) (qA : Nat → Nat) (qB : Nat → Nat) (qC : Nat → Nat) (qE : Nat → Nat) (sb : Nat → Int32) (S : TS) (V : TS)  : g_M l D E T yX5_keep wsX5_keep 2 39 [.ref ob, .int (nI 0)] [(ob, .inr (5, [z0, z1, .ref h, z3, z4, .ref sl, .ref sv, z7, z8, z9, z10])), (sl, .inl (E 4, 2, .inr (.inr (.inr (.inr (fun k => some (qA k))))))), (sv, .inl (E 3, 2, .inl sb)), ((qA 0), .inr (4, [.ref (qB 0), .ref (qC 0), .ref (qE 0), .int (nI (sD V)), .int (sM V), .float (sP V), .int (sI V), .int (sC V), .int (sA V), .int (sR V), .int (nI (sK V))])), ((qB 0), .inl (E 1, 4, .inr (.inr (.inl (sF V))))), ((qC 0), .inl (E 0, 4, .inl (sT V))), ((qE 0), .inl (E 0, 18, .inl (sW V))), (h, .inr (4, [.ref hs, .ref ht, .ref hq, .int (nI (sD S)), .int (sM S), .float (sP S), .int (sI S), .int (sC S), .int (sA S), .int (sR S), .int (nI (sK S))])), (hs, .inl (E 1, 4, .inr (.inr (.inl (sF S))))), (ht, .inl (E 0, 4, .inl (sT S))), (hq, .inl (E 0, 18, .inl (sW S)))] [(ob, .inr (5, [z0, z1, .ref h, z3, z4, .ref sl, .ref sv, z7, z8, z9, z10])), (sl, .inl (E 4, 2, .inr (.inr (.inr (.inr (fun k => some (qA k))))))), (sv, .inl (E 3, 2, .inl (upd sb 0 1))), ((qA 0), .inr (4, [.ref (qB 0), .ref (qC 0), .ref (qE 0), .int (nI (sD S)), .int (sM S), .float (sP S), .int (sI S), .int (sC S), .int (sA S), .int (sR S), .int (nI (sK S))])), ((qB 0), .inl (E 1, 4, .inr (.inr (.inl (sF S))))), ((qC 0), .inl (E 0, 4, .inl (sT S))), ((qE 0), .inl (E 0, 18, .inl (sW S))), (h, .inr (4, [.ref hs, .ref ht, .ref hq, .int (nI (sD S)), .int (sM S), .float (sP S), .int (sI S), .int (sC S), .int (sA S), .int (sR S), .int (nI (sK S))])), (hs, .inl (E 1, 4, .inr (.inr (.inl (sF S))))), (ht, .inl (E 0, 4, .inl (sT S))), (hq, .inl (E 0, 18, .inl (sW S)))] (some (.int (nI (sK S)))) := by
  refine g_M.of (cc := cX5_keep) (nL := 2) (ret := (some .int)) (own := RX5) (lv := [(0, .ref ob), (1, .int (nI 0))]) (by decide) rfl rfl (Nat.le_of_ble_eq_true rfl) rfl ?_
  intro p e R s m args below meth c A Q H locs ls hR hQ hc hr hw hl
  have hx := hc.1
  have hb := hc.2.1
  have hts := hc.2.2.2.1
  have hown := hc.2.2.2.2.1
  refine lv_iload_n hx hb dX5_keep_0 rfl (lv_at hl 1 rfl) ?_
  refine lv_iconst (v := 0) hx hb dX5_keep_1 (by decide) ?_
  refine lv_iconst (v := 1) hx hb dX5_keep_2 (by decide) ?_
  refine g_cS (As := [.int (nI 0), .int 0, .int 1]) (n := 3) (rest := []) (wc := []) (w1 := []) (bytes := cX5_outside) (maxL := 3) (ret := (some .boolean)) hc hw hl.1 (m_X5_outside (l := l) (D := D) (E := E) (T := T) (nI 0) 0 1) gX5_keep_X5_outside rfl (by decide +kernel) (by rw [hR]; exact ⟨Nat.le_of_ble_eq_true rfl, Nat.le_of_ble_eq_true rfl⟩) [] (by decide) rfl [] rfl rfl rfl rfl (Nat.le_of_ble_eq_true rfl) dX5_keep_3 ⟨Nat.zero_le _, Nat.zero_le _⟩ (fun H locs hw => ?_)
  have hw : g_W D A s [(ob, .inr (5, [z0, z1, .ref h, z3, z4, .ref sl, .ref sv, z7, z8, z9, z10])), (sl, .inl (E 4, 2, .inr (.inr (.inr (.inr (fun k => some (qA k))))))), (sv, .inl (E 3, 2, .inl sb)), ((qA 0), .inr (4, [.ref (qB 0), .ref (qC 0), .ref (qE 0), .int (nI (sD V)), .int (sM V), .float (sP V), .int (sI V), .int (sC V), .int (sA V), .int (sR V), .int (nI (sK V))])), ((qB 0), .inl (E 1, 4, .inr (.inr (.inl (sF V))))), ((qC 0), .inl (E 0, 4, .inl (sT V))), ((qE 0), .inl (E 0, 18, .inl (sW V))), (h, .inr (4, [.ref hs, .ref ht, .ref hq, .int (nI (sD S)), .int (sM S), .float (sP S), .int (sI S), .int (sC S), .int (sA S), .int (sR S), .int (nI (sK S))])), (hs, .inl (E 1, 4, .inr (.inr (.inl (sF S))))), (ht, .inl (E 0, 4, .inl (sT S))), (hq, .inl (E 0, 18, .inl (sW S)))] H locs := hw
  refine W.eq (congrArg (fun z => F0 m 6 ls (.int z :: [])) (show (b2i (outB (nI 0) 0 1) : Int32) = 0 from (congrArg b2i (out_nf (n := 0) (a := 0) (b := 1) (by omega) (by decide) (by decide))))) ?_
  refine lv_if_eq (tgt := 11) hx hb dX5_keep_6 (by decide) (fun c_6 => ?_) (fun c_6 => absurd c_6 (by decide))
  refine lv_aload_n hx hb dX5_keep_11 rfl (lv_at hl 0 rfl) ?_
  refine g_get (TT := TX5) hc hw inX5_keep_X5 0 5 1 rfl rfl (by decide) rfl rfl dX5_keep_12 ?_
  refine lv_iload_n hx hb dX5_keep_15 rfl (lv_at hl 1 rfl) ?_
  refine g_qld hc hw 1 4 0 rfl rfl rfl (by omega) (by decide) (r := .ref (qA 0)) rfl dX5_keep_16 ?_
  refine lv_aload_n hx hb dX5_keep_17 rfl (lv_at hl 0 rfl) ?_
  refine g_get (TT := TX5) hc hw inX5_keep_X5 0 2 2 rfl rfl (by decide) rfl rfl dX5_keep_18 ?_
  refine g_cVN (As := [.ref h]) (n := 1) (rest := []) (wc := [((qA 0), .inr (4, [.ref (qB 0), .ref (qC 0), .ref (qE 0), .int (nI (sD V)), .int (sM V), .float (sP V), .int (sI V), .int (sC V), .int (sA V), .int (sR V), .int (nI (sK V))])), ((qB 0), .inl (E 1, 4, .inr (.inr (.inl (sF V))))), ((qC 0), .inl (E 0, 4, .inl (sT V))), ((qE 0), .inl (E 0, 18, .inl (sW V))), (h, .inr (4, [.ref hs, .ref ht, .ref hq, .int (nI (sD S)), .int (sM S), .float (sP S), .int (sI S), .int (sC S), .int (sA S), .int (sR S), .int (nI (sK S))])), (hs, .inl (E 1, 4, .inr (.inr (.inl (sF S))))), (ht, .inl (E 0, 4, .inl (sT S))), (hq, .inl (E 0, 18, .inl (sW S)))]) (w1 := [((qA 0), .inr (4, [.ref (qB 0), .ref (qC 0), .ref (qE 0), .int (nI (sD S)), .int (sM S), .float (sP S), .int (sI S), .int (sC S), .int (sA S), .int (sR S), .int (nI (sK S))])), ((qB 0), .inl (E 1, 4, .inr (.inr (.inl (sF S))))), ((qC 0), .inl (E 0, 4, .inl (sT S))), ((qE 0), .inl (E 0, 18, .inl (sW S))), (h, .inr (4, [.ref hs, .ref ht, .ref hq, .int (nI (sD S)), .int (sM S), .float (sP S), .int (sI S), .int (sC S), .int (sA S), .int (sR S), .int (nI (sK S))])), (hs, .inl (E 1, 4, .inr (.inr (.inl (sF S))))), (ht, .inl (E 0, 4, .inl (sT S))), (hq, .inl (E 0, 18, .inl (sW S)))]) (bytes := cX4_copyFrom) (maxL := 2) (ret := none) hc hw hl.1 (m_X4_copyFrom (l := l) (D := D) (E := E) (T := T) (qA 0) (qB 0) (qC 0) (qE 0) h hs ht hq (nI (sD S)) (sM S) (sP S) (sI S) (sC S) (sA S) (sR S) (nI (sK S)) (nI (sD V)) (sM V) (sP V) (sI V) (sC V) (sA V) (sR V) (nI (sK V)) (sF S) (sT S) (sW S) (sF V) (sT V) (sW V)) ggX5_keep_X4_copyFrom rfl 72 rfl 9 8 10 rfl rfl rfl (by decide +kernel) (by rw [hR]; exact ⟨Nat.le_of_ble_eq_true rfl, Nat.le_of_ble_eq_true rfl⟩) [3, 4, 5, 6, 7, 8, 9, 10] 3 4 rfl rfl (by decide) rfl [(qA 0), (qB 0), (qC 0), (qE 0), h, hs, ht, hq] rfl rfl rfl rfl (Nat.le_of_ble_eq_true rfl) dX5_keep_21 ⟨Nat.zero_le _, Nat.zero_le _⟩ (fun H locs hw => ?_)
  have hw : g_W D A s [(ob, .inr (5, [z0, z1, .ref h, z3, z4, .ref sl, .ref sv, z7, z8, z9, z10])), (sl, .inl (E 4, 2, .inr (.inr (.inr (.inr (fun k => some (qA k))))))), (sv, .inl (E 3, 2, .inl sb)), ((qA 0), .inr (4, [.ref (qB 0), .ref (qC 0), .ref (qE 0), .int (nI (sD S)), .int (sM S), .float (sP S), .int (sI S), .int (sC S), .int (sA S), .int (sR S), .int (nI (sK S))])), ((qB 0), .inl (E 1, 4, .inr (.inr (.inl (sF S))))), ((qC 0), .inl (E 0, 4, .inl (sT S))), ((qE 0), .inl (E 0, 18, .inl (sW S))), (h, .inr (4, [.ref hs, .ref ht, .ref hq, .int (nI (sD S)), .int (sM S), .float (sP S), .int (sI S), .int (sC S), .int (sA S), .int (sR S), .int (nI (sK S))])), (hs, .inl (E 1, 4, .inr (.inr (.inl (sF S))))), (ht, .inl (E 0, 4, .inl (sT S))), (hq, .inl (E 0, 18, .inl (sW S)))] H locs := hw
  refine lv_aload_n hx hb dX5_keep_24 rfl (lv_at hl 0 rfl) ?_
  refine g_get (TT := TX5) hc hw inX5_keep_X5 0 6 3 rfl rfl (by decide) rfl rfl dX5_keep_25 ?_
  refine lv_iload_n hx hb dX5_keep_28 rfl (lv_at hl 1 rfl) ?_
  refine lv_iconst (v := 1) hx hb dX5_keep_29 (by decide) ?_
  refine g_zst (x' := 1) hc hw 2 0 rfl rfl (by omega) (by decide) rfl dX5_keep_30 (fun H locs hw => ?_)
  have hw : g_W D A s [(ob, .inr (5, [z0, z1, .ref h, z3, z4, .ref sl, .ref sv, z7, z8, z9, z10])), (sl, .inl (E 4, 2, .inr (.inr (.inr (.inr (fun k => some (qA k))))))), (sv, .inl (E 3, 2, .inl (upd sb 0 1))), ((qA 0), .inr (4, [.ref (qB 0), .ref (qC 0), .ref (qE 0), .int (nI (sD S)), .int (sM S), .float (sP S), .int (sI S), .int (sC S), .int (sA S), .int (sR S), .int (nI (sK S))])), ((qB 0), .inl (E 1, 4, .inr (.inr (.inl (sF S))))), ((qC 0), .inl (E 0, 4, .inl (sT S))), ((qE 0), .inl (E 0, 18, .inl (sW S))), (h, .inr (4, [.ref hs, .ref ht, .ref hq, .int (nI (sD S)), .int (sM S), .float (sP S), .int (sI S), .int (sC S), .int (sA S), .int (sR S), .int (nI (sK S))])), (hs, .inl (E 1, 4, .inr (.inr (.inl (sF S))))), (ht, .inl (E 0, 4, .inl (sT S))), (hq, .inl (E 0, 18, .inl (sW S)))] H locs := hw
  refine lv_aload_n hx hb dX5_keep_31 rfl (lv_at hl 0 rfl) ?_
  refine g_get (TT := TX5) hc hw inX5_keep_X5 0 2 2 rfl rfl (by decide) rfl rfl dX5_keep_32 ?_
  refine g_getN (TT := TX4) hc hw inX5_keep_X4 7 10 41 rfl rfl (by decide) rfl rfl dX5_keep_35 ?_
  exact g_iret hQ hc hw hr rfl rfl dX5_keep_38

theorem dX5_again_11 : decode cX5_again 11 = .ok (.aload_n 0, 1) := by decide +kernel
theorem dX5_again_12 : decode cX5_again 12 = .ok (.getfield 44, 3) := by decide +kernel
theorem dX5_again_15 : decode cX5_again 15 = .ok (.iload_n 1, 1) := by decide +kernel
theorem dX5_again_16 : decode cX5_again 16 = .ok (.baload, 1) := by decide +kernel
theorem dX5_again_17 : decode cX5_again 17 = .ok (.ifCond .ne 6, 3) := by decide +kernel
theorem dX5_again_20 : decode cX5_again 20 = .ok (.bipush (-3), 2) := by decide +kernel
theorem dX5_again_22 : decode cX5_again 22 = .ok (.ireturn, 1) := by decide +kernel
theorem inX5_again_X5 : ∀ w ∈ u_ws RX5 TX5 11, w ∈ wsX5_again := fun w h => List.mem_cons_of_mem _ (List.mem_append_left _ (List.mem_append_left _ (List.mem_append_right _ h)))
set_option maxRecDepth 100000 in
set_option maxHeartbeats 4000000 in
theorem m_X5_again_no0 {l : Launch} {D : va_G} {E : Nat → ClassId} {T : Nat → Nat} (ob : Nat) (sv : Nat) (z0 : Value) (z1 : Value) (z2 : Value) (z3 : Value) (z4 : Value) (z5 : Value) (z7 : Value) (z8 : Value) (z9 : Value) (z10 : Value) (sb : Nat → Int32) (hsb : sb 0 = 0) : g_M l D E T yX5_again wsX5_again 1 22 [.ref ob, .int (nI 0)] [(ob, .inr (5, [z0, z1, z2, z3, z4, z5, .ref sv, z7, z8, z9, z10])), (sv, .inl (E 3, 2, .inl sb))] [(ob, .inr (5, [z0, z1, z2, z3, z4, z5, .ref sv, z7, z8, z9, z10])), (sv, .inl (E 3, 2, .inl sb))] (some (.int (-3))) := by
  refine g_M.of (cc := cX5_again) (nL := 2) (ret := (some .int)) (own := RX5) (lv := [(0, .ref ob), (1, .int (nI 0))]) (by decide) rfl rfl (Nat.le_of_ble_eq_true rfl) rfl ?_
  intro p e R s m args below meth c A Q H locs ls hR hQ hc hr hw hl
  have hx := hc.1
  have hb := hc.2.1
  have hts := hc.2.2.2.1
  have hown := hc.2.2.2.2.1
  refine lv_iload_n hx hb dX5_again_0 rfl (lv_at hl 1 rfl) ?_
  refine lv_iconst (v := 0) hx hb dX5_again_1 (by decide) ?_
  refine lv_iconst (v := 1) hx hb dX5_again_2 (by decide) ?_
  refine g_cS (As := [.int (nI 0), .int 0, .int 1]) (n := 3) (rest := []) (wc := []) (w1 := []) (bytes := cX5_outside) (maxL := 3) (ret := (some .boolean)) hc hw hl.1 (m_X5_outside (l := l) (D := D) (E := E) (T := T) (nI 0) 0 1) gX5_again_X5_outside rfl (by decide +kernel) (by rw [hR]; exact ⟨Nat.le_of_ble_eq_true rfl, Nat.le_of_ble_eq_true rfl⟩) [] (by decide) rfl [] rfl rfl rfl rfl (Nat.le_of_ble_eq_true rfl) dX5_again_3 ⟨Nat.zero_le _, Nat.zero_le _⟩ (fun H locs hw => ?_)
  have hw : g_W D A s [(ob, .inr (5, [z0, z1, z2, z3, z4, z5, .ref sv, z7, z8, z9, z10])), (sv, .inl (E 3, 2, .inl sb))] H locs := hw
  refine W.eq (congrArg (fun z => F0 m 6 ls (.int z :: [])) (show (b2i (outB (nI 0) 0 1) : Int32) = 0 from (congrArg b2i (out_nf (n := 0) (a := 0) (b := 1) (by omega) (by decide) (by decide))))) ?_
  refine lv_if_eq (tgt := 11) hx hb dX5_again_6 (by decide) (fun c_6 => ?_) (fun c_6 => absurd c_6 (by decide))
  refine lv_aload_n hx hb dX5_again_11 rfl (lv_at hl 0 rfl) ?_
  refine g_get (TT := TX5) hc hw inX5_again_X5 0 6 1 rfl rfl (by decide) rfl rfl dX5_again_12 ?_
  refine lv_iload_n hx hb dX5_again_15 rfl (lv_at hl 1 rfl) ?_
  refine g_zld hc hw 1 0 rfl rfl (by omega) (by decide) dX5_again_16 ?_
  refine W.eq (congrArg (fun z => F0 m 17 ls (.int z :: [])) (show (sb 0 : Int32) = 0 from hsb)) ?_
  refine lv_if_ne (tgt := 23) hx hb dX5_again_17 (by decide) (fun c_17 => absurd c_17 (by decide)) (fun c_17 => ?_)
  refine lv_bipush (v := (-3)) hx hb dX5_again_20 (by decide) ?_
  exact g_iret hQ hc hw hr rfl rfl dX5_again_22

theorem dX5_again_23 : decode cX5_again 23 = .ok (.aload_n 0, 1) := by decide +kernel
theorem dX5_again_24 : decode cX5_again 24 = .ok (.getfield 26, 3) := by decide +kernel
theorem dX5_again_27 : decode cX5_again 27 = .ok (.aload_n 0, 1) := by decide +kernel
theorem dX5_again_28 : decode cX5_again 28 = .ok (.getfield 40, 3) := by decide +kernel
theorem dX5_again_31 : decode cX5_again 31 = .ok (.iload_n 1, 1) := by decide +kernel
theorem dX5_again_32 : decode cX5_again 32 = .ok (.aaload, 1) := by decide +kernel
theorem dX5_again_33 : decode cX5_again 33 = .ok (.invokevirtual 272, 3) := by decide +kernel
theorem dX5_again_36 : decode cX5_again 36 = .ok (.aload_n 0, 1) := by decide +kernel
theorem dX5_again_37 : decode cX5_again 37 = .ok (.getfield 36, 3) := by decide +kernel
theorem dX5_again_40 : decode cX5_again 40 = .ok (.invokevirtual 82, 3) := by decide +kernel
theorem dX5_again_43 : decode cX5_again 43 = .ok (.aload_n 0, 1) := by decide +kernel
theorem dX5_again_44 : decode cX5_again 44 = .ok (.getfield 26, 3) := by decide +kernel
theorem dX5_again_47 : decode cX5_again 47 = .ok (.getfield 275, 3) := by decide +kernel
theorem dX5_again_50 : decode cX5_again 50 = .ok (.ireturn, 1) := by decide +kernel
set_option maxRecDepth 20000 in
theorem ggX5_again_X4_copyFrom : GoodIn wsX5_again wsX4_copyFrom := goodIn_r _ [12, 13, 14, 15, 16, 17, 18, 19, 20, 21, 22, 23, 24, 25, 26, 27, 44, 45, 46, 47, 48, 49, 50, 51, 52, 53, 54] rfl (by decide +kernel)
set_option maxRecDepth 20000 in
theorem ggX5_again_X0_forget : GoodIn wsX5_again wsX0_forget := goodIn_r _ [31, 32, 55, 56, 57] rfl (by decide +kernel)
theorem inX5_again_X4 : ∀ w ∈ u_ws RX4 TX4 11, w ∈ wsX5_again := fun w h => List.mem_cons_of_mem _ (List.mem_append_left _ (List.mem_append_right _ h))
set_option maxRecDepth 100000 in
set_option maxHeartbeats 4000000 in
theorem m_X5_again_0 {l : Launch} {D : va_G} {E : Nat → ClassId} {T : Nat → Nat} (ob : Nat) (h : Nat) (hs : Nat) (ht : Nat) (hq : Nat) (hi : Nat) (z0 : Value) (z1 : Value) (z3 : Value) (z7 : Value) (z8 : Value) (z9 : Value) (z10 : Value) (sl : Nat) (sv : Nat) (qA : Nat → Nat) (qB : Nat → Nat) (qC : Nat → Nat) (qE : Nat → Nat) (sb : Nat → Int32) (S : TS) (V : TS) (x0 : Value) (x1 : Value) (x2 : Value) (hsb : sb 0 = 1) : g_M l D E T yX5_again wsX5_again 2 39 [.ref ob, .int (nI 0)] [(ob, .inr (5, [z0, z1, .ref h, z3, .ref hi, .ref sl, .ref sv, z7, z8, z9, z10])), (sl, .inl (E 4, 2, .inr (.inr (.inr (.inr (fun k => some (qA k))))))), (sv, .inl (E 3, 2, .inl sb)), (hi, .inr (0, [x0, x1, x2])), ((qA 0), .inr (4, [.ref (qB 0), .ref (qC 0), .ref (qE 0), .int (nI (sD V)), .int (sM V), .float (sP V), .int (sI V), .int (sC V), .int (sA V), .int (sR V), .int (nI (sK V))])), ((qB 0), .inl (E 1, 4, .inr (.inr (.inl (sF V))))), ((qC 0), .inl (E 0, 4, .inl (sT V))), ((qE 0), .inl (E 0, 18, .inl (sW V))), (h, .inr (4, [.ref hs, .ref ht, .ref hq, .int (nI (sD S)), .int (sM S), .float (sP S), .int (sI S), .int (sC S), .int (sA S), .int (sR S), .int (nI (sK S))])), (hs, .inl (E 1, 4, .inr (.inr (.inl (sF S))))), (ht, .inl (E 0, 4, .inl (sT S))), (hq, .inl (E 0, 18, .inl (sW S)))] [(ob, .inr (5, [z0, z1, .ref h, z3, .ref hi, .ref sl, .ref sv, z7, z8, z9, z10])), (sl, .inl (E 4, 2, .inr (.inr (.inr (.inr (fun k => some (qA k))))))), (sv, .inl (E 3, 2, .inl sb)), (hi, .inr (0, [x0, .int 0, x2])), ((qA 0), .inr (4, [.ref (qB 0), .ref (qC 0), .ref (qE 0), .int (nI (sD V)), .int (sM V), .float (sP V), .int (sI V), .int (sC V), .int (sA V), .int (sR V), .int (nI (sK V))])), ((qB 0), .inl (E 1, 4, .inr (.inr (.inl (sF V))))), ((qC 0), .inl (E 0, 4, .inl (sT V))), ((qE 0), .inl (E 0, 18, .inl (sW V))), (h, .inr (4, [.ref hs, .ref ht, .ref hq, .int (nI (sD V)), .int (sM V), .float (sP V), .int (sI V), .int (sC V), .int (sA V), .int (sR V), .int (nI (sK V))])), (hs, .inl (E 1, 4, .inr (.inr (.inl (sF V))))), (ht, .inl (E 0, 4, .inl (sT V))), (hq, .inl (E 0, 18, .inl (sW V)))] (some (.int (nI (sK V)))) := by
  refine g_M.of (cc := cX5_again) (nL := 2) (ret := (some .int)) (own := RX5) (lv := [(0, .ref ob), (1, .int (nI 0))]) (by decide) rfl rfl (Nat.le_of_ble_eq_true rfl) rfl ?_
  intro p e R s m args below meth c A Q H locs ls hR hQ hc hr hw hl
  have hx := hc.1
  have hb := hc.2.1
  have hts := hc.2.2.2.1
  have hown := hc.2.2.2.2.1
  refine lv_iload_n hx hb dX5_again_0 rfl (lv_at hl 1 rfl) ?_
  refine lv_iconst (v := 0) hx hb dX5_again_1 (by decide) ?_
  refine lv_iconst (v := 1) hx hb dX5_again_2 (by decide) ?_
  refine g_cS (As := [.int (nI 0), .int 0, .int 1]) (n := 3) (rest := []) (wc := []) (w1 := []) (bytes := cX5_outside) (maxL := 3) (ret := (some .boolean)) hc hw hl.1 (m_X5_outside (l := l) (D := D) (E := E) (T := T) (nI 0) 0 1) gX5_again_X5_outside rfl (by decide +kernel) (by rw [hR]; exact ⟨Nat.le_of_ble_eq_true rfl, Nat.le_of_ble_eq_true rfl⟩) [] (by decide) rfl [] rfl rfl rfl rfl (Nat.le_of_ble_eq_true rfl) dX5_again_3 ⟨Nat.zero_le _, Nat.zero_le _⟩ (fun H locs hw => ?_)
  have hw : g_W D A s [(ob, .inr (5, [z0, z1, .ref h, z3, .ref hi, .ref sl, .ref sv, z7, z8, z9, z10])), (sl, .inl (E 4, 2, .inr (.inr (.inr (.inr (fun k => some (qA k))))))), (sv, .inl (E 3, 2, .inl sb)), (hi, .inr (0, [x0, x1, x2])), ((qA 0), .inr (4, [.ref (qB 0), .ref (qC 0), .ref (qE 0), .int (nI (sD V)), .int (sM V), .float (sP V), .int (sI V), .int (sC V), .int (sA V), .int (sR V), .int (nI (sK V))])), ((qB 0), .inl (E 1, 4, .inr (.inr (.inl (sF V))))), ((qC 0), .inl (E 0, 4, .inl (sT V))), ((qE 0), .inl (E 0, 18, .inl (sW V))), (h, .inr (4, [.ref hs, .ref ht, .ref hq, .int (nI (sD S)), .int (sM S), .float (sP S), .int (sI S), .int (sC S), .int (sA S), .int (sR S), .int (nI (sK S))])), (hs, .inl (E 1, 4, .inr (.inr (.inl (sF S))))), (ht, .inl (E 0, 4, .inl (sT S))), (hq, .inl (E 0, 18, .inl (sW S)))] H locs := hw
  refine W.eq (congrArg (fun z => F0 m 6 ls (.int z :: [])) (show (b2i (outB (nI 0) 0 1) : Int32) = 0 from (congrArg b2i (out_nf (n := 0) (a := 0) (b := 1) (by omega) (by decide) (by decide))))) ?_
  refine lv_if_eq (tgt := 11) hx hb dX5_again_6 (by decide) (fun c_6 => ?_) (fun c_6 => absurd c_6 (by decide))
  refine lv_aload_n hx hb dX5_again_11 rfl (lv_at hl 0 rfl) ?_
  refine g_get (TT := TX5) hc hw inX5_again_X5 0 6 1 rfl rfl (by decide) rfl rfl dX5_again_12 ?_
  refine lv_iload_n hx hb dX5_again_15 rfl (lv_at hl 1 rfl) ?_
  refine g_zld hc hw 2 0 rfl rfl (by omega) (by decide) dX5_again_16 ?_
  refine W.eq (congrArg (fun z => F0 m 17 ls (.int z :: [])) (show (sb 0 : Int32) = 1 from hsb)) ?_
  refine lv_if_ne (tgt := 23) hx hb dX5_again_17 (by decide) (fun c_17 => ?_) (fun c_17 => absurd c_17 (by decide))
  refine lv_aload_n hx hb dX5_again_23 rfl (lv_at hl 0 rfl) ?_
  refine g_get (TT := TX5) hc hw inX5_again_X5 0 2 2 rfl rfl (by decide) rfl rfl dX5_again_24 ?_
  refine lv_aload_n hx hb dX5_again_27 rfl (lv_at hl 0 rfl) ?_
  refine g_get (TT := TX5) hc hw inX5_again_X5 0 5 3 rfl rfl (by decide) rfl rfl dX5_again_28 ?_
  refine lv_iload_n hx hb dX5_again_31 rfl (lv_at hl 1 rfl) ?_
  refine g_qld hc hw 1 4 0 rfl rfl rfl (by omega) (by decide) (r := .ref (qA 0)) rfl dX5_again_32 ?_
  refine g_cVN (As := [.ref (qA 0)]) (n := 1) (rest := []) (wc := [(h, .inr (4, [.ref hs, .ref ht, .ref hq, .int (nI (sD S)), .int (sM S), .float (sP S), .int (sI S), .int (sC S), .int (sA S), .int (sR S), .int (nI (sK S))])), (hs, .inl (E 1, 4, .inr (.inr (.inl (sF S))))), (ht, .inl (E 0, 4, .inl (sT S))), (hq, .inl (E 0, 18, .inl (sW S))), ((qA 0), .inr (4, [.ref (qB 0), .ref (qC 0), .ref (qE 0), .int (nI (sD V)), .int (sM V), .float (sP V), .int (sI V), .int (sC V), .int (sA V), .int (sR V), .int (nI (sK V))])), ((qB 0), .inl (E 1, 4, .inr (.inr (.inl (sF V))))), ((qC 0), .inl (E 0, 4, .inl (sT V))), ((qE 0), .inl (E 0, 18, .inl (sW V)))]) (w1 := [(h, .inr (4, [.ref hs, .ref ht, .ref hq, .int (nI (sD V)), .int (sM V), .float (sP V), .int (sI V), .int (sC V), .int (sA V), .int (sR V), .int (nI (sK V))])), (hs, .inl (E 1, 4, .inr (.inr (.inl (sF V))))), (ht, .inl (E 0, 4, .inl (sT V))), (hq, .inl (E 0, 18, .inl (sW V))), ((qA 0), .inr (4, [.ref (qB 0), .ref (qC 0), .ref (qE 0), .int (nI (sD V)), .int (sM V), .float (sP V), .int (sI V), .int (sC V), .int (sA V), .int (sR V), .int (nI (sK V))])), ((qB 0), .inl (E 1, 4, .inr (.inr (.inl (sF V))))), ((qC 0), .inl (E 0, 4, .inl (sT V))), ((qE 0), .inl (E 0, 18, .inl (sW V)))]) (bytes := cX4_copyFrom) (maxL := 2) (ret := none) hc hw hl.1 (m_X4_copyFrom (l := l) (D := D) (E := E) (T := T) h hs ht hq (qA 0) (qB 0) (qC 0) (qE 0) (nI (sD V)) (sM V) (sP V) (sI V) (sC V) (sA V) (sR V) (nI (sK V)) (nI (sD S)) (sM S) (sP S) (sI S) (sC S) (sA S) (sR S) (nI (sK S)) (sF V) (sT V) (sW V) (sF S) (sT S) (sW S)) ggX5_again_X4_copyFrom rfl 72 rfl 10 9 11 rfl rfl rfl (by decide +kernel) (by rw [hR]; exact ⟨Nat.le_of_ble_eq_true rfl, Nat.le_of_ble_eq_true rfl⟩) [8, 9, 10, 11, 4, 5, 6, 7] 8 4 rfl rfl (by decide) rfl [h, hs, ht, hq, (qA 0), (qB 0), (qC 0), (qE 0)] rfl rfl rfl rfl (Nat.le_of_ble_eq_true rfl) dX5_again_33 ⟨Nat.zero_le _, Nat.zero_le _⟩ (fun H locs hw => ?_)
  have hw : g_W D A s [(ob, .inr (5, [z0, z1, .ref h, z3, .ref hi, .ref sl, .ref sv, z7, z8, z9, z10])), (sl, .inl (E 4, 2, .inr (.inr (.inr (.inr (fun k => some (qA k))))))), (sv, .inl (E 3, 2, .inl sb)), (hi, .inr (0, [x0, x1, x2])), ((qA 0), .inr (4, [.ref (qB 0), .ref (qC 0), .ref (qE 0), .int (nI (sD V)), .int (sM V), .float (sP V), .int (sI V), .int (sC V), .int (sA V), .int (sR V), .int (nI (sK V))])), ((qB 0), .inl (E 1, 4, .inr (.inr (.inl (sF V))))), ((qC 0), .inl (E 0, 4, .inl (sT V))), ((qE 0), .inl (E 0, 18, .inl (sW V))), (h, .inr (4, [.ref hs, .ref ht, .ref hq, .int (nI (sD V)), .int (sM V), .float (sP V), .int (sI V), .int (sC V), .int (sA V), .int (sR V), .int (nI (sK V))])), (hs, .inl (E 1, 4, .inr (.inr (.inl (sF V))))), (ht, .inl (E 0, 4, .inl (sT V))), (hq, .inl (E 0, 18, .inl (sW V)))] H locs := hw
  refine lv_aload_n hx hb dX5_again_36 rfl (lv_at hl 0 rfl) ?_
  refine g_get (TT := TX5) hc hw inX5_again_X5 0 4 4 rfl rfl (by decide) rfl rfl dX5_again_37 ?_
  refine g_cVN (As := []) (n := 0) (rest := []) (wc := [(hi, .inr (0, [x0, x1, x2]))]) (w1 := [(hi, .inr (0, [x0, .int 0, x2]))]) (bytes := cX0_forget) (maxL := 1) (ret := none) hc hw hl.1 (m_X0_forget (l := l) (D := D) (E := E) (T := T) hi x0 x1 x2) ggX5_again_X0_forget rfl 51 rfl 29 28 30 rfl rfl rfl (by decide +kernel) (by rw [hR]; exact ⟨Nat.le_of_ble_eq_true rfl, Nat.le_of_ble_eq_true rfl⟩) [3] 3 0 rfl rfl (by decide) rfl [hi] rfl rfl rfl rfl (Nat.le_of_ble_eq_true rfl) dX5_again_40 ⟨Nat.zero_le _, Nat.zero_le _⟩ (fun H locs hw => ?_)
  have hw : g_W D A s [(ob, .inr (5, [z0, z1, .ref h, z3, .ref hi, .ref sl, .ref sv, z7, z8, z9, z10])), (sl, .inl (E 4, 2, .inr (.inr (.inr (.inr (fun k => some (qA k))))))), (sv, .inl (E 3, 2, .inl sb)), (hi, .inr (0, [x0, .int 0, x2])), ((qA 0), .inr (4, [.ref (qB 0), .ref (qC 0), .ref (qE 0), .int (nI (sD V)), .int (sM V), .float (sP V), .int (sI V), .int (sC V), .int (sA V), .int (sR V), .int (nI (sK V))])), ((qB 0), .inl (E 1, 4, .inr (.inr (.inl (sF V))))), ((qC 0), .inl (E 0, 4, .inl (sT V))), ((qE 0), .inl (E 0, 18, .inl (sW V))), (h, .inr (4, [.ref hs, .ref ht, .ref hq, .int (nI (sD V)), .int (sM V), .float (sP V), .int (sI V), .int (sC V), .int (sA V), .int (sR V), .int (nI (sK V))])), (hs, .inl (E 1, 4, .inr (.inr (.inl (sF V))))), (ht, .inl (E 0, 4, .inl (sT V))), (hq, .inl (E 0, 18, .inl (sW V)))] H locs := hw
  refine lv_aload_n hx hb dX5_again_43 rfl (lv_at hl 0 rfl) ?_
  refine g_get (TT := TX5) hc hw inX5_again_X5 0 2 2 rfl rfl (by decide) rfl rfl dX5_again_44 ?_
  refine g_getN (TT := TX4) hc hw inX5_again_X4 8 10 41 rfl rfl (by decide) rfl rfl dX5_again_47 ?_
  exact g_iret hQ hc hw hr rfl rfl dX5_again_50

set_option maxRecDepth 100000 in
set_option maxHeartbeats 4000000 in
theorem m_X5_keep_1 {l : Launch} {D : va_G} {E : Nat → ClassId} {T : Nat → Nat} (ob : Nat) (h : Nat) (hs : Nat) (ht : Nat) (hq : Nat) (z0 : Value) (z1 : Value) (z3 : Value) (z4 : Value) (z7 : Value) (z8 : Value) (z9 : Value) (z10 : Value) (sl : Nat) (sv : Nat) (qA : Nat → Nat) (qB : Nat → Nat) (qC : Nat → Nat) (qE : Nat → Nat) (sb : Nat → Int32) (S : TS) (V : TS)  : g_M l D E T yX5_keep wsX5_keep 2 39 [.ref ob, .int (nI 1)] [(ob, .inr (5, [z0, z1, .ref h, z3, z4, .ref sl, .ref sv, z7, z8, z9, z10])), (sl, .inl (E 4, 2, .inr (.inr (.inr (.inr (fun k => some (qA k))))))), (sv, .inl (E 3, 2, .inl sb)), ((qA 1), .inr (4, [.ref (qB 1), .ref (qC 1), .ref (qE 1), .int (nI (sD V)), .int (sM V), .float (sP V), .int (sI V), .int (sC V), .int (sA V), .int (sR V), .int (nI (sK V))])), ((qB 1), .inl (E 1, 4, .inr (.inr (.inl (sF V))))), ((qC 1), .inl (E 0, 4, .inl (sT V))), ((qE 1), .inl (E 0, 18, .inl (sW V))), (h, .inr (4, [.ref hs, .ref ht, .ref hq, .int (nI (sD S)), .int (sM S), .float (sP S), .int (sI S), .int (sC S), .int (sA S), .int (sR S), .int (nI (sK S))])), (hs, .inl (E 1, 4, .inr (.inr (.inl (sF S))))), (ht, .inl (E 0, 4, .inl (sT S))), (hq, .inl (E 0, 18, .inl (sW S)))] [(ob, .inr (5, [z0, z1, .ref h, z3, z4, .ref sl, .ref sv, z7, z8, z9, z10])), (sl, .inl (E 4, 2, .inr (.inr (.inr (.inr (fun k => some (qA k))))))), (sv, .inl (E 3, 2, .inl (upd sb 1 1))), ((qA 1), .inr (4, [.ref (qB 1), .ref (qC 1), .ref (qE 1), .int (nI (sD S)), .int (sM S), .float (sP S), .int (sI S), .int (sC S), .int (sA S), .int (sR S), .int (nI (sK S))])), ((qB 1), .inl (E 1, 4, .inr (.inr (.inl (sF S))))), ((qC 1), .inl (E 0, 4, .inl (sT S))), ((qE 1), .inl (E 0, 18, .inl (sW S))), (h, .inr (4, [.ref hs, .ref ht, .ref hq, .int (nI (sD S)), .int (sM S), .float (sP S), .int (sI S), .int (sC S), .int (sA S), .int (sR S), .int (nI (sK S))])), (hs, .inl (E 1, 4, .inr (.inr (.inl (sF S))))), (ht, .inl (E 0, 4, .inl (sT S))), (hq, .inl (E 0, 18, .inl (sW S)))] (some (.int (nI (sK S)))) := by
  refine g_M.of (cc := cX5_keep) (nL := 2) (ret := (some .int)) (own := RX5) (lv := [(0, .ref ob), (1, .int (nI 1))]) (by decide) rfl rfl (Nat.le_of_ble_eq_true rfl) rfl ?_
  intro p e R s m args below meth c A Q H locs ls hR hQ hc hr hw hl
  have hx := hc.1
  have hb := hc.2.1
  have hts := hc.2.2.2.1
  have hown := hc.2.2.2.2.1
  refine lv_iload_n hx hb dX5_keep_0 rfl (lv_at hl 1 rfl) ?_
  refine lv_iconst (v := 0) hx hb dX5_keep_1 (by decide) ?_
  refine lv_iconst (v := 1) hx hb dX5_keep_2 (by decide) ?_
  refine g_cS (As := [.int (nI 1), .int 0, .int 1]) (n := 3) (rest := []) (wc := []) (w1 := []) (bytes := cX5_outside) (maxL := 3) (ret := (some .boolean)) hc hw hl.1 (m_X5_outside (l := l) (D := D) (E := E) (T := T) (nI 1) 0 1) gX5_keep_X5_outside rfl (by decide +kernel) (by rw [hR]; exact ⟨Nat.le_of_ble_eq_true rfl, Nat.le_of_ble_eq_true rfl⟩) [] (by decide) rfl [] rfl rfl rfl rfl (Nat.le_of_ble_eq_true rfl) dX5_keep_3 ⟨Nat.zero_le _, Nat.zero_le _⟩ (fun H locs hw => ?_)
  have hw : g_W D A s [(ob, .inr (5, [z0, z1, .ref h, z3, z4, .ref sl, .ref sv, z7, z8, z9, z10])), (sl, .inl (E 4, 2, .inr (.inr (.inr (.inr (fun k => some (qA k))))))), (sv, .inl (E 3, 2, .inl sb)), ((qA 1), .inr (4, [.ref (qB 1), .ref (qC 1), .ref (qE 1), .int (nI (sD V)), .int (sM V), .float (sP V), .int (sI V), .int (sC V), .int (sA V), .int (sR V), .int (nI (sK V))])), ((qB 1), .inl (E 1, 4, .inr (.inr (.inl (sF V))))), ((qC 1), .inl (E 0, 4, .inl (sT V))), ((qE 1), .inl (E 0, 18, .inl (sW V))), (h, .inr (4, [.ref hs, .ref ht, .ref hq, .int (nI (sD S)), .int (sM S), .float (sP S), .int (sI S), .int (sC S), .int (sA S), .int (sR S), .int (nI (sK S))])), (hs, .inl (E 1, 4, .inr (.inr (.inl (sF S))))), (ht, .inl (E 0, 4, .inl (sT S))), (hq, .inl (E 0, 18, .inl (sW S)))] H locs := hw
  refine W.eq (congrArg (fun z => F0 m 6 ls (.int z :: [])) (show (b2i (outB (nI 1) 0 1) : Int32) = 0 from (congrArg b2i (out_nf (n := 1) (a := 0) (b := 1) (by omega) (by decide) (by decide))))) ?_
  refine lv_if_eq (tgt := 11) hx hb dX5_keep_6 (by decide) (fun c_6 => ?_) (fun c_6 => absurd c_6 (by decide))
  refine lv_aload_n hx hb dX5_keep_11 rfl (lv_at hl 0 rfl) ?_
  refine g_get (TT := TX5) hc hw inX5_keep_X5 0 5 1 rfl rfl (by decide) rfl rfl dX5_keep_12 ?_
  refine lv_iload_n hx hb dX5_keep_15 rfl (lv_at hl 1 rfl) ?_
  refine g_qld hc hw 1 4 1 rfl rfl rfl (by omega) (by decide) (r := .ref (qA 1)) rfl dX5_keep_16 ?_
  refine lv_aload_n hx hb dX5_keep_17 rfl (lv_at hl 0 rfl) ?_
  refine g_get (TT := TX5) hc hw inX5_keep_X5 0 2 2 rfl rfl (by decide) rfl rfl dX5_keep_18 ?_
  refine g_cVN (As := [.ref h]) (n := 1) (rest := []) (wc := [((qA 1), .inr (4, [.ref (qB 1), .ref (qC 1), .ref (qE 1), .int (nI (sD V)), .int (sM V), .float (sP V), .int (sI V), .int (sC V), .int (sA V), .int (sR V), .int (nI (sK V))])), ((qB 1), .inl (E 1, 4, .inr (.inr (.inl (sF V))))), ((qC 1), .inl (E 0, 4, .inl (sT V))), ((qE 1), .inl (E 0, 18, .inl (sW V))), (h, .inr (4, [.ref hs, .ref ht, .ref hq, .int (nI (sD S)), .int (sM S), .float (sP S), .int (sI S), .int (sC S), .int (sA S), .int (sR S), .int (nI (sK S))])), (hs, .inl (E 1, 4, .inr (.inr (.inl (sF S))))), (ht, .inl (E 0, 4, .inl (sT S))), (hq, .inl (E 0, 18, .inl (sW S)))]) (w1 := [((qA 1), .inr (4, [.ref (qB 1), .ref (qC 1), .ref (qE 1), .int (nI (sD S)), .int (sM S), .float (sP S), .int (sI S), .int (sC S), .int (sA S), .int (sR S), .int (nI (sK S))])), ((qB 1), .inl (E 1, 4, .inr (.inr (.inl (sF S))))), ((qC 1), .inl (E 0, 4, .inl (sT S))), ((qE 1), .inl (E 0, 18, .inl (sW S))), (h, .inr (4, [.ref hs, .ref ht, .ref hq, .int (nI (sD S)), .int (sM S), .float (sP S), .int (sI S), .int (sC S), .int (sA S), .int (sR S), .int (nI (sK S))])), (hs, .inl (E 1, 4, .inr (.inr (.inl (sF S))))), (ht, .inl (E 0, 4, .inl (sT S))), (hq, .inl (E 0, 18, .inl (sW S)))]) (bytes := cX4_copyFrom) (maxL := 2) (ret := none) hc hw hl.1 (m_X4_copyFrom (l := l) (D := D) (E := E) (T := T) (qA 1) (qB 1) (qC 1) (qE 1) h hs ht hq (nI (sD S)) (sM S) (sP S) (sI S) (sC S) (sA S) (sR S) (nI (sK S)) (nI (sD V)) (sM V) (sP V) (sI V) (sC V) (sA V) (sR V) (nI (sK V)) (sF S) (sT S) (sW S) (sF V) (sT V) (sW V)) ggX5_keep_X4_copyFrom rfl 72 rfl 9 8 10 rfl rfl rfl (by decide +kernel) (by rw [hR]; exact ⟨Nat.le_of_ble_eq_true rfl, Nat.le_of_ble_eq_true rfl⟩) [3, 4, 5, 6, 7, 8, 9, 10] 3 4 rfl rfl (by decide) rfl [(qA 1), (qB 1), (qC 1), (qE 1), h, hs, ht, hq] rfl rfl rfl rfl (Nat.le_of_ble_eq_true rfl) dX5_keep_21 ⟨Nat.zero_le _, Nat.zero_le _⟩ (fun H locs hw => ?_)
  have hw : g_W D A s [(ob, .inr (5, [z0, z1, .ref h, z3, z4, .ref sl, .ref sv, z7, z8, z9, z10])), (sl, .inl (E 4, 2, .inr (.inr (.inr (.inr (fun k => some (qA k))))))), (sv, .inl (E 3, 2, .inl sb)), ((qA 1), .inr (4, [.ref (qB 1), .ref (qC 1), .ref (qE 1), .int (nI (sD S)), .int (sM S), .float (sP S), .int (sI S), .int (sC S), .int (sA S), .int (sR S), .int (nI (sK S))])), ((qB 1), .inl (E 1, 4, .inr (.inr (.inl (sF S))))), ((qC 1), .inl (E 0, 4, .inl (sT S))), ((qE 1), .inl (E 0, 18, .inl (sW S))), (h, .inr (4, [.ref hs, .ref ht, .ref hq, .int (nI (sD S)), .int (sM S), .float (sP S), .int (sI S), .int (sC S), .int (sA S), .int (sR S), .int (nI (sK S))])), (hs, .inl (E 1, 4, .inr (.inr (.inl (sF S))))), (ht, .inl (E 0, 4, .inl (sT S))), (hq, .inl (E 0, 18, .inl (sW S)))] H locs := hw
  refine lv_aload_n hx hb dX5_keep_24 rfl (lv_at hl 0 rfl) ?_
  refine g_get (TT := TX5) hc hw inX5_keep_X5 0 6 3 rfl rfl (by decide) rfl rfl dX5_keep_25 ?_
  refine lv_iload_n hx hb dX5_keep_28 rfl (lv_at hl 1 rfl) ?_
  refine lv_iconst (v := 1) hx hb dX5_keep_29 (by decide) ?_
  refine g_zst (x' := 1) hc hw 2 1 rfl rfl (by omega) (by decide) rfl dX5_keep_30 (fun H locs hw => ?_)
  have hw : g_W D A s [(ob, .inr (5, [z0, z1, .ref h, z3, z4, .ref sl, .ref sv, z7, z8, z9, z10])), (sl, .inl (E 4, 2, .inr (.inr (.inr (.inr (fun k => some (qA k))))))), (sv, .inl (E 3, 2, .inl (upd sb 1 1))), ((qA 1), .inr (4, [.ref (qB 1), .ref (qC 1), .ref (qE 1), .int (nI (sD S)), .int (sM S), .float (sP S), .int (sI S), .int (sC S), .int (sA S), .int (sR S), .int (nI (sK S))])), ((qB 1), .inl (E 1, 4, .inr (.inr (.inl (sF S))))), ((qC 1), .inl (E 0, 4, .inl (sT S))), ((qE 1), .inl (E 0, 18, .inl (sW S))), (h, .inr (4, [.ref hs, .ref ht, .ref hq, .int (nI (sD S)), .int (sM S), .float (sP S), .int (sI S), .int (sC S), .int (sA S), .int (sR S), .int (nI (sK S))])), (hs, .inl (E 1, 4, .inr (.inr (.inl (sF S))))), (ht, .inl (E 0, 4, .inl (sT S))), (hq, .inl (E 0, 18, .inl (sW S)))] H locs := hw
  refine lv_aload_n hx hb dX5_keep_31 rfl (lv_at hl 0 rfl) ?_
  refine g_get (TT := TX5) hc hw inX5_keep_X5 0 2 2 rfl rfl (by decide) rfl rfl dX5_keep_32 ?_
  refine g_getN (TT := TX4) hc hw inX5_keep_X4 7 10 41 rfl rfl (by decide) rfl rfl dX5_keep_35 ?_
  exact g_iret hQ hc hw hr rfl rfl dX5_keep_38

set_option maxRecDepth 100000 in
set_option maxHeartbeats 4000000 in
theorem m_X5_again_no1 {l : Launch} {D : va_G} {E : Nat → ClassId} {T : Nat → Nat} (ob : Nat) (sv : Nat) (z0 : Value) (z1 : Value) (z2 : Value) (z3 : Value) (z4 : Value) (z5 : Value) (z7 : Value) (z8 : Value) (z9 : Value) (z10 : Value) (sb : Nat → Int32) (hsb : sb 1 = 0) : g_M l D E T yX5_again wsX5_again 1 22 [.ref ob, .int (nI 1)] [(ob, .inr (5, [z0, z1, z2, z3, z4, z5, .ref sv, z7, z8, z9, z10])), (sv, .inl (E 3, 2, .inl sb))] [(ob, .inr (5, [z0, z1, z2, z3, z4, z5, .ref sv, z7, z8, z9, z10])), (sv, .inl (E 3, 2, .inl sb))] (some (.int (-3))) := by
  refine g_M.of (cc := cX5_again) (nL := 2) (ret := (some .int)) (own := RX5) (lv := [(0, .ref ob), (1, .int (nI 1))]) (by decide) rfl rfl (Nat.le_of_ble_eq_true rfl) rfl ?_
  intro p e R s m args below meth c A Q H locs ls hR hQ hc hr hw hl
  have hx := hc.1
  have hb := hc.2.1
  have hts := hc.2.2.2.1
  have hown := hc.2.2.2.2.1
  refine lv_iload_n hx hb dX5_again_0 rfl (lv_at hl 1 rfl) ?_
  refine lv_iconst (v := 0) hx hb dX5_again_1 (by decide) ?_
  refine lv_iconst (v := 1) hx hb dX5_again_2 (by decide) ?_
  refine g_cS (As := [.int (nI 1), .int 0, .int 1]) (n := 3) (rest := []) (wc := []) (w1 := []) (bytes := cX5_outside) (maxL := 3) (ret := (some .boolean)) hc hw hl.1 (m_X5_outside (l := l) (D := D) (E := E) (T := T) (nI 1) 0 1) gX5_again_X5_outside rfl (by decide +kernel) (by rw [hR]; exact ⟨Nat.le_of_ble_eq_true rfl, Nat.le_of_ble_eq_true rfl⟩) [] (by decide) rfl [] rfl rfl rfl rfl (Nat.le_of_ble_eq_true rfl) dX5_again_3 ⟨Nat.zero_le _, Nat.zero_le _⟩ (fun H locs hw => ?_)
  have hw : g_W D A s [(ob, .inr (5, [z0, z1, z2, z3, z4, z5, .ref sv, z7, z8, z9, z10])), (sv, .inl (E 3, 2, .inl sb))] H locs := hw
  refine W.eq (congrArg (fun z => F0 m 6 ls (.int z :: [])) (show (b2i (outB (nI 1) 0 1) : Int32) = 0 from (congrArg b2i (out_nf (n := 1) (a := 0) (b := 1) (by omega) (by decide) (by decide))))) ?_
  refine lv_if_eq (tgt := 11) hx hb dX5_again_6 (by decide) (fun c_6 => ?_) (fun c_6 => absurd c_6 (by decide))
  refine lv_aload_n hx hb dX5_again_11 rfl (lv_at hl 0 rfl) ?_
  refine g_get (TT := TX5) hc hw inX5_again_X5 0 6 1 rfl rfl (by decide) rfl rfl dX5_again_12 ?_
  refine lv_iload_n hx hb dX5_again_15 rfl (lv_at hl 1 rfl) ?_
  refine g_zld hc hw 1 1 rfl rfl (by omega) (by decide) dX5_again_16 ?_
  refine W.eq (congrArg (fun z => F0 m 17 ls (.int z :: [])) (show (sb 1 : Int32) = 0 from hsb)) ?_
  refine lv_if_ne (tgt := 23) hx hb dX5_again_17 (by decide) (fun c_17 => absurd c_17 (by decide)) (fun c_17 => ?_)
  refine lv_bipush (v := (-3)) hx hb dX5_again_20 (by decide) ?_
  exact g_iret hQ hc hw hr rfl rfl dX5_again_22

set_option maxRecDepth 100000 in
set_option maxHeartbeats 4000000 in
theorem m_X5_again_1 {l : Launch} {D : va_G} {E : Nat → ClassId} {T : Nat → Nat} (ob : Nat) (h : Nat) (hs : Nat) (ht : Nat) (hq : Nat) (hi : Nat) (z0 : Value) (z1 : Value) (z3 : Value) (z7 : Value) (z8 : Value) (z9 : Value) (z10 : Value) (sl : Nat) (sv : Nat) (qA : Nat → Nat) (qB : Nat → Nat) (qC : Nat → Nat) (qE : Nat → Nat) (sb : Nat → Int32) (S : TS) (V : TS) (x0 : Value) (x1 : Value) (x2 : Value) (hsb : sb 1 = 1) : g_M l D E T yX5_again wsX5_again 2 39 [.ref ob, .int (nI 1)] [(ob, .inr (5, [z0, z1, .ref h, z3, .ref hi, .ref sl, .ref sv, z7, z8, z9, z10])), (sl, .inl (E 4, 2, .inr (.inr (.inr (.inr (fun k => some (qA k))))))), (sv, .inl (E 3, 2, .inl sb)), (hi, .inr (0, [x0, x1, x2])), ((qA 1), .inr (4, [.ref (qB 1), .ref (qC 1), .ref (qE 1), .int (nI (sD V)), .int (sM V), .float (sP V), .int (sI V), .int (sC V), .int (sA V), .int (sR V), .int (nI (sK V))])), ((qB 1), .inl (E 1, 4, .inr (.inr (.inl (sF V))))), ((qC 1), .inl (E 0, 4, .inl (sT V))), ((qE 1), .inl (E 0, 18, .inl (sW V))), (h, .inr (4, [.ref hs, .ref ht, .ref hq, .int (nI (sD S)), .int (sM S), .float (sP S), .int (sI S), .int (sC S), .int (sA S), .int (sR S), .int (nI (sK S))])), (hs, .inl (E 1, 4, .inr (.inr (.inl (sF S))))), (ht, .inl (E 0, 4, .inl (sT S))), (hq, .inl (E 0, 18, .inl (sW S)))] [(ob, .inr (5, [z0, z1, .ref h, z3, .ref hi, .ref sl, .ref sv, z7, z8, z9, z10])), (sl, .inl (E 4, 2, .inr (.inr (.inr (.inr (fun k => some (qA k))))))), (sv, .inl (E 3, 2, .inl sb)), (hi, .inr (0, [x0, .int 0, x2])), ((qA 1), .inr (4, [.ref (qB 1), .ref (qC 1), .ref (qE 1), .int (nI (sD V)), .int (sM V), .float (sP V), .int (sI V), .int (sC V), .int (sA V), .int (sR V), .int (nI (sK V))])), ((qB 1), .inl (E 1, 4, .inr (.inr (.inl (sF V))))), ((qC 1), .inl (E 0, 4, .inl (sT V))), ((qE 1), .inl (E 0, 18, .inl (sW V))), (h, .inr (4, [.ref hs, .ref ht, .ref hq, .int (nI (sD V)), .int (sM V), .float (sP V), .int (sI V), .int (sC V), .int (sA V), .int (sR V), .int (nI (sK V))])), (hs, .inl (E 1, 4, .inr (.inr (.inl (sF V))))), (ht, .inl (E 0, 4, .inl (sT V))), (hq, .inl (E 0, 18, .inl (sW V)))] (some (.int (nI (sK V)))) := by
  refine g_M.of (cc := cX5_again) (nL := 2) (ret := (some .int)) (own := RX5) (lv := [(0, .ref ob), (1, .int (nI 1))]) (by decide) rfl rfl (Nat.le_of_ble_eq_true rfl) rfl ?_
  intro p e R s m args below meth c A Q H locs ls hR hQ hc hr hw hl
  have hx := hc.1
  have hb := hc.2.1
  have hts := hc.2.2.2.1
  have hown := hc.2.2.2.2.1
  refine lv_iload_n hx hb dX5_again_0 rfl (lv_at hl 1 rfl) ?_
  refine lv_iconst (v := 0) hx hb dX5_again_1 (by decide) ?_
  refine lv_iconst (v := 1) hx hb dX5_again_2 (by decide) ?_
  refine g_cS (As := [.int (nI 1), .int 0, .int 1]) (n := 3) (rest := []) (wc := []) (w1 := []) (bytes := cX5_outside) (maxL := 3) (ret := (some .boolean)) hc hw hl.1 (m_X5_outside (l := l) (D := D) (E := E) (T := T) (nI 1) 0 1) gX5_again_X5_outside rfl (by decide +kernel) (by rw [hR]; exact ⟨Nat.le_of_ble_eq_true rfl, Nat.le_of_ble_eq_true rfl⟩) [] (by decide) rfl [] rfl rfl rfl rfl (Nat.le_of_ble_eq_true rfl) dX5_again_3 ⟨Nat.zero_le _, Nat.zero_le _⟩ (fun H locs hw => ?_)
  have hw : g_W D A s [(ob, .inr (5, [z0, z1, .ref h, z3, .ref hi, .ref sl, .ref sv, z7, z8, z9, z10])), (sl, .inl (E 4, 2, .inr (.inr (.inr (.inr (fun k => some (qA k))))))), (sv, .inl (E 3, 2, .inl sb)), (hi, .inr (0, [x0, x1, x2])), ((qA 1), .inr (4, [.ref (qB 1), .ref (qC 1), .ref (qE 1), .int (nI (sD V)), .int (sM V), .float (sP V), .int (sI V), .int (sC V), .int (sA V), .int (sR V), .int (nI (sK V))])), ((qB 1), .inl (E 1, 4, .inr (.inr (.inl (sF V))))), ((qC 1), .inl (E 0, 4, .inl (sT V))), ((qE 1), .inl (E 0, 18, .inl (sW V))), (h, .inr (4, [.ref hs, .ref ht, .ref hq, .int (nI (sD S)), .int (sM S), .float (sP S), .int (sI S), .int (sC S), .int (sA S), .int (sR S), .int (nI (sK S))])), (hs, .inl (E 1, 4, .inr (.inr (.inl (sF S))))), (ht, .inl (E 0, 4, .inl (sT S))), (hq, .inl (E 0, 18, .inl (sW S)))] H locs := hw
  refine W.eq (congrArg (fun z => F0 m 6 ls (.int z :: [])) (show (b2i (outB (nI 1) 0 1) : Int32) = 0 from (congrArg b2i (out_nf (n := 1) (a := 0) (b := 1) (by omega) (by decide) (by decide))))) ?_
  refine lv_if_eq (tgt := 11) hx hb dX5_again_6 (by decide) (fun c_6 => ?_) (fun c_6 => absurd c_6 (by decide))
  refine lv_aload_n hx hb dX5_again_11 rfl (lv_at hl 0 rfl) ?_
  refine g_get (TT := TX5) hc hw inX5_again_X5 0 6 1 rfl rfl (by decide) rfl rfl dX5_again_12 ?_
  refine lv_iload_n hx hb dX5_again_15 rfl (lv_at hl 1 rfl) ?_
  refine g_zld hc hw 2 1 rfl rfl (by omega) (by decide) dX5_again_16 ?_
  refine W.eq (congrArg (fun z => F0 m 17 ls (.int z :: [])) (show (sb 1 : Int32) = 1 from hsb)) ?_
  refine lv_if_ne (tgt := 23) hx hb dX5_again_17 (by decide) (fun c_17 => ?_) (fun c_17 => absurd c_17 (by decide))
  refine lv_aload_n hx hb dX5_again_23 rfl (lv_at hl 0 rfl) ?_
  refine g_get (TT := TX5) hc hw inX5_again_X5 0 2 2 rfl rfl (by decide) rfl rfl dX5_again_24 ?_
  refine lv_aload_n hx hb dX5_again_27 rfl (lv_at hl 0 rfl) ?_
  refine g_get (TT := TX5) hc hw inX5_again_X5 0 5 3 rfl rfl (by decide) rfl rfl dX5_again_28 ?_
  refine lv_iload_n hx hb dX5_again_31 rfl (lv_at hl 1 rfl) ?_
  refine g_qld hc hw 1 4 1 rfl rfl rfl (by omega) (by decide) (r := .ref (qA 1)) rfl dX5_again_32 ?_
  refine g_cVN (As := [.ref (qA 1)]) (n := 1) (rest := []) (wc := [(h, .inr (4, [.ref hs, .ref ht, .ref hq, .int (nI (sD S)), .int (sM S), .float (sP S), .int (sI S), .int (sC S), .int (sA S), .int (sR S), .int (nI (sK S))])), (hs, .inl (E 1, 4, .inr (.inr (.inl (sF S))))), (ht, .inl (E 0, 4, .inl (sT S))), (hq, .inl (E 0, 18, .inl (sW S))), ((qA 1), .inr (4, [.ref (qB 1), .ref (qC 1), .ref (qE 1), .int (nI (sD V)), .int (sM V), .float (sP V), .int (sI V), .int (sC V), .int (sA V), .int (sR V), .int (nI (sK V))])), ((qB 1), .inl (E 1, 4, .inr (.inr (.inl (sF V))))), ((qC 1), .inl (E 0, 4, .inl (sT V))), ((qE 1), .inl (E 0, 18, .inl (sW V)))]) (w1 := [(h, .inr (4, [.ref hs, .ref ht, .ref hq, .int (nI (sD V)), .int (sM V), .float (sP V), .int (sI V), .int (sC V), .int (sA V), .int (sR V), .int (nI (sK V))])), (hs, .inl (E 1, 4, .inr (.inr (.inl (sF V))))), (ht, .inl (E 0, 4, .inl (sT V))), (hq, .inl (E 0, 18, .inl (sW V))), ((qA 1), .inr (4, [.ref (qB 1), .ref (qC 1), .ref (qE 1), .int (nI (sD V)), .int (sM V), .float (sP V), .int (sI V), .int (sC V), .int (sA V), .int (sR V), .int (nI (sK V))])), ((qB 1), .inl (E 1, 4, .inr (.inr (.inl (sF V))))), ((qC 1), .inl (E 0, 4, .inl (sT V))), ((qE 1), .inl (E 0, 18, .inl (sW V)))]) (bytes := cX4_copyFrom) (maxL := 2) (ret := none) hc hw hl.1 (m_X4_copyFrom (l := l) (D := D) (E := E) (T := T) h hs ht hq (qA 1) (qB 1) (qC 1) (qE 1) (nI (sD V)) (sM V) (sP V) (sI V) (sC V) (sA V) (sR V) (nI (sK V)) (nI (sD S)) (sM S) (sP S) (sI S) (sC S) (sA S) (sR S) (nI (sK S)) (sF V) (sT V) (sW V) (sF S) (sT S) (sW S)) ggX5_again_X4_copyFrom rfl 72 rfl 10 9 11 rfl rfl rfl (by decide +kernel) (by rw [hR]; exact ⟨Nat.le_of_ble_eq_true rfl, Nat.le_of_ble_eq_true rfl⟩) [8, 9, 10, 11, 4, 5, 6, 7] 8 4 rfl rfl (by decide) rfl [h, hs, ht, hq, (qA 1), (qB 1), (qC 1), (qE 1)] rfl rfl rfl rfl (Nat.le_of_ble_eq_true rfl) dX5_again_33 ⟨Nat.zero_le _, Nat.zero_le _⟩ (fun H locs hw => ?_)
  have hw : g_W D A s [(ob, .inr (5, [z0, z1, .ref h, z3, .ref hi, .ref sl, .ref sv, z7, z8, z9, z10])), (sl, .inl (E 4, 2, .inr (.inr (.inr (.inr (fun k => some (qA k))))))), (sv, .inl (E 3, 2, .inl sb)), (hi, .inr (0, [x0, x1, x2])), ((qA 1), .inr (4, [.ref (qB 1), .ref (qC 1), .ref (qE 1), .int (nI (sD V)), .int (sM V), .float (sP V), .int (sI V), .int (sC V), .int (sA V), .int (sR V), .int (nI (sK V))])), ((qB 1), .inl (E 1, 4, .inr (.inr (.inl (sF V))))), ((qC 1), .inl (E 0, 4, .inl (sT V))), ((qE 1), .inl (E 0, 18, .inl (sW V))), (h, .inr (4, [.ref hs, .ref ht, .ref hq, .int (nI (sD V)), .int (sM V), .float (sP V), .int (sI V), .int (sC V), .int (sA V), .int (sR V), .int (nI (sK V))])), (hs, .inl (E 1, 4, .inr (.inr (.inl (sF V))))), (ht, .inl (E 0, 4, .inl (sT V))), (hq, .inl (E 0, 18, .inl (sW V)))] H locs := hw
  refine lv_aload_n hx hb dX5_again_36 rfl (lv_at hl 0 rfl) ?_
  refine g_get (TT := TX5) hc hw inX5_again_X5 0 4 4 rfl rfl (by decide) rfl rfl dX5_again_37 ?_
  refine g_cVN (As := []) (n := 0) (rest := []) (wc := [(hi, .inr (0, [x0, x1, x2]))]) (w1 := [(hi, .inr (0, [x0, .int 0, x2]))]) (bytes := cX0_forget) (maxL := 1) (ret := none) hc hw hl.1 (m_X0_forget (l := l) (D := D) (E := E) (T := T) hi x0 x1 x2) ggX5_again_X0_forget rfl 51 rfl 29 28 30 rfl rfl rfl (by decide +kernel) (by rw [hR]; exact ⟨Nat.le_of_ble_eq_true rfl, Nat.le_of_ble_eq_true rfl⟩) [3] 3 0 rfl rfl (by decide) rfl [hi] rfl rfl rfl rfl (Nat.le_of_ble_eq_true rfl) dX5_again_40 ⟨Nat.zero_le _, Nat.zero_le _⟩ (fun H locs hw => ?_)
  have hw : g_W D A s [(ob, .inr (5, [z0, z1, .ref h, z3, .ref hi, .ref sl, .ref sv, z7, z8, z9, z10])), (sl, .inl (E 4, 2, .inr (.inr (.inr (.inr (fun k => some (qA k))))))), (sv, .inl (E 3, 2, .inl sb)), (hi, .inr (0, [x0, .int 0, x2])), ((qA 1), .inr (4, [.ref (qB 1), .ref (qC 1), .ref (qE 1), .int (nI (sD V)), .int (sM V), .float (sP V), .int (sI V), .int (sC V), .int (sA V), .int (sR V), .int (nI (sK V))])), ((qB 1), .inl (E 1, 4, .inr (.inr (.inl (sF V))))), ((qC 1), .inl (E 0, 4, .inl (sT V))), ((qE 1), .inl (E 0, 18, .inl (sW V))), (h, .inr (4, [.ref hs, .ref ht, .ref hq, .int (nI (sD V)), .int (sM V), .float (sP V), .int (sI V), .int (sC V), .int (sA V), .int (sR V), .int (nI (sK V))])), (hs, .inl (E 1, 4, .inr (.inr (.inl (sF V))))), (ht, .inl (E 0, 4, .inl (sT V))), (hq, .inl (E 0, 18, .inl (sW V)))] H locs := hw
  refine lv_aload_n hx hb dX5_again_43 rfl (lv_at hl 0 rfl) ?_
  refine g_get (TT := TX5) hc hw inX5_again_X5 0 2 2 rfl rfl (by decide) rfl rfl dX5_again_44 ?_
  refine g_getN (TT := TX4) hc hw inX5_again_X4 8 10 41 rfl rfl (by decide) rfl rfl dX5_again_47 ?_
  exact g_iret hQ hc hw hr rfl rfl dX5_again_50
end P19f
