section P15
theorem dX5_outside_0 : decode cX5_outside 0 = .ok (.iload_n 0, 1) := by decide +kernel
theorem dX5_outside_1 : decode cX5_outside 1 = .ok (.iload_n 1, 1) := by decide +kernel
theorem dX5_outside_2 : decode cX5_outside 2 = .ok (.if_icmp .lt 8, 3) := by decide +kernel
theorem dX5_outside_5 : decode cX5_outside 5 = .ok (.iload_n 0, 1) := by decide +kernel
theorem dX5_outside_6 : decode cX5_outside 6 = .ok (.iload_n 2, 1) := by decide +kernel
theorem dX5_outside_7 : decode cX5_outside 7 = .ok (.if_icmp .le 7, 3) := by decide +kernel
theorem dX5_outside_10 : decode cX5_outside 10 = .ok (.iconst 1, 1) := by decide +kernel
theorem dX5_outside_11 : decode cX5_outside 11 = .ok (.goto 4, 3) := by decide +kernel
theorem dX5_outside_14 : decode cX5_outside 14 = .ok (.iconst 0, 1) := by decide +kernel
theorem dX5_outside_15 : decode cX5_outside 15 = .ok (.ireturn, 1) := by decide +kernel
set_option maxRecDepth 100000 in
set_option maxHeartbeats 4000000 in
theorem m_X5_outside {l : Launch} {D : va_G} {E : Nat → ClassId} {T : Nat → Nat} (v : Int32) (a : Int32) (b : Int32)  : g_M l D E T yX5_outside wsX5_outside 0 0 [.int v, .int a, .int b] [] [] (some (.int (b2i (outB v a b)))) := by
  refine g_M.of (cc := cX5_outside) (nL := 3) (ret := (some .boolean)) (own := RX5) (lv := [(0, .int v), (1, .int a), (2, .int b)]) (by decide) rfl rfl (Nat.le_of_ble_eq_true rfl) rfl ?_
  intro p e R s m args below meth c A Q H locs ls hR hQ hc hr hw hl
  have hx := hc.1
  have hb := hc.2.1
  have hts := hc.2.2.2.1
  have hown := hc.2.2.2.2.1
  refine lv_iload_n hx hb dX5_outside_0 rfl (lv_at hl 0 rfl) ?_
  refine lv_iload_n hx hb dX5_outside_1 rfl (lv_at hl 1 rfl) ?_
  refine lv_icmp_lt (tgt := 10) hx hb dX5_outside_2 (by decide) (fun c_2 => ?_) (fun c_2 => ?_)
  · skip
    refine lv_iconst (v := 1) hx hb dX5_outside_10 (by decide) ?_
    refine lv_goto (tgt := 15) hx hb dX5_outside_11 (by decide) ?_
    exact g_zret hQ hc hw hr (by exact congrArg (fun z => some (Value.int z)) (out_T1 c_2)) (by first | rfl | (split <;> rfl) | exact g_nb _) rfl dX5_outside_15
  · skip
    refine lv_iload_n hx hb dX5_outside_5 rfl (lv_at hl 0 rfl) ?_
    refine lv_iload_n hx hb dX5_outside_6 rfl (lv_at hl 2 rfl) ?_
    refine lv_icmp_le (tgt := 14) hx hb dX5_outside_7 (by decide) (fun c_7 => ?_) (fun c_7 => ?_)
    · skip
      refine lv_iconst (v := 0) hx hb dX5_outside_14 (by decide) ?_
      exact g_zret hQ hc hw hr (by exact congrArg (fun z => some (Value.int z)) (out_F c_2 c_7)) (by first | rfl | (split <;> rfl) | exact g_nb _) rfl dX5_outside_15
    · skip
      refine lv_iconst (v := 1) hx hb dX5_outside_10 (by decide) ?_
      refine lv_goto (tgt := 15) hx hb dX5_outside_11 (by decide) ?_
      exact g_zret hQ hc hw hr (by exact congrArg (fun z => some (Value.int z)) (out_T2 c_7)) (by first | rfl | (split <;> rfl) | exact g_nb _) rfl dX5_outside_15

theorem dX5_noWheel_0 : decode cX5_noWheel 0 = .ok (.iload_n 0, 1) := by decide +kernel
theorem dX5_noWheel_1 : decode cX5_noWheel 1 = .ok (.iconst 0, 1) := by decide +kernel
theorem dX5_noWheel_2 : decode cX5_noWheel 2 = .ok (.iconst 3, 1) := by decide +kernel
theorem dX5_noWheel_3 : decode cX5_noWheel 3 = .ok (.invokestatic 59, 3) := by decide +kernel
theorem dX5_noWheel_6 : decode cX5_noWheel 6 = .ok (.ireturn, 1) := by decide +kernel
set_option maxRecDepth 20000 in
theorem ggX5_noWheel_X5_outside : GoodIn wsX5_noWheel wsX5_outside := goodIn_r _ [4] rfl (by decide +kernel)
set_option maxRecDepth 20000 in
theorem gX5_noWheel_X5_outside : GoodIn wsX5_noWheel (va_wsS RX5 59 yX5_outside wsX5_outside) := goodIn_app (goodIn_of _ (by decide +kernel)) ggX5_noWheel_X5_outside
set_option maxRecDepth 100000 in
set_option maxHeartbeats 4000000 in
theorem m_X5_noWheel {l : Launch} {D : va_G} {E : Nat → ClassId} {T : Nat → Nat} (v : Int32)  : g_M l D E T yX5_noWheel wsX5_noWheel 1 22 [.int v] [] [] (some (.int (b2i (outB v 0 3)))) := by
  refine g_M.of (cc := cX5_noWheel) (nL := 1) (ret := (some .boolean)) (own := RX5) (lv := [(0, .int v)]) (by decide) rfl rfl (Nat.le_of_ble_eq_true rfl) rfl ?_
  intro p e R s m args below meth c A Q H locs ls hR hQ hc hr hw hl
  have hx := hc.1
  have hb := hc.2.1
  have hts := hc.2.2.2.1
  have hown := hc.2.2.2.2.1
  refine lv_iload_n hx hb dX5_noWheel_0 rfl (lv_at hl 0 rfl) ?_
  refine lv_iconst (v := 0) hx hb dX5_noWheel_1 (by decide) ?_
  refine lv_iconst (v := 3) hx hb dX5_noWheel_2 (by decide) ?_
  refine g_cS (As := [.int v, .int 0, .int 3]) (n := 3) (rest := []) (wc := []) (w1 := []) (bytes := cX5_outside) (maxL := 3) (ret := (some .boolean)) hc hw hl.1 (m_X5_outside (l := l) (D := D) (E := E) (T := T) v 0 3) gX5_noWheel_X5_outside rfl (by decide +kernel) (by rw [hR]; exact ⟨Nat.le_of_ble_eq_true rfl, Nat.le_of_ble_eq_true rfl⟩) [] (by decide) rfl [] rfl rfl rfl rfl (Nat.le_of_ble_eq_true rfl) dX5_noWheel_3 ⟨Nat.zero_le _, Nat.zero_le _⟩ (fun H locs hw => ?_)
  have hw : g_W D A s [] H locs := hw
  exact g_zret hQ hc hw hr rfl (by first | rfl | (split <;> rfl) | exact g_nb _) rfl dX5_noWheel_6

theorem dX5_thousandthsOf_0 : decode cX5_thousandthsOf 0 = .ok (.fload_n 0, 1) := by decide +kernel
theorem dX5_thousandthsOf_1 : decode cX5_thousandthsOf 1 = .ok (.ldc_w 300, 3) := by decide +kernel
theorem dX5_thousandthsOf_4 : decode cX5_thousandthsOf 4 = .ok (.fmul, 1) := by decide +kernel
theorem dX5_thousandthsOf_5 : decode cX5_thousandthsOf 5 = .ok (.f2i, 1) := by decide +kernel
theorem dX5_thousandthsOf_6 : decode cX5_thousandthsOf 6 = .ok (.ireturn, 1) := by decide +kernel
set_option maxRecDepth 100000 in
set_option maxHeartbeats 4000000 in
theorem m_X5_thousandthsOf {l : Launch} {D : va_G} {E : Nat → ClassId} {T : Nat → Nat} (v : UInt32) (hv : g_mg 143 v) : g_M l D E T yX5_thousandthsOf wsX5_thousandthsOf 0 0 [.float v] [] [] (some (.int (thF v))) := by
  refine g_M.of (cc := cX5_thousandthsOf) (nL := 1) (ret := (some .int)) (own := RX5) (lv := [(0, .float v)]) (by decide) rfl rfl (Nat.le_of_ble_eq_true rfl) rfl ?_
  intro p e R s m args below meth c A Q H locs ls hR hQ hc hr hw hl
  have hx := hc.1
  have hb := hc.2.1
  have hts := hc.2.2.2.1
  have hown := hc.2.2.2.2.1
  refine lv_fload_n hx hb dX5_thousandthsOf_0 rfl (lv_at hl 0 rfl) ?_
  refine lv_ldcwf (v := 1148846080) hx hb hown (hts _ (List.mem_of_getElem? (i := 1) rfl)) dX5_thousandthsOf_1 ?_
  refine lv_fmul hx hb dX5_thousandthsOf_4 (g_nn (g_mgmul (Ka := 143) (Kb := 137) (K := 154) hv (g_mgk (by decide)) (by decide) (by decide)) (by decide)) ?_
  refine lv_f2i hx hb dX5_thousandthsOf_5 ?_
  exact g_iret hQ hc hw hr rfl rfl dX5_thousandthsOf_6

theorem dX5_power_0 : decode cX5_power 0 = .ok (.iconst 1, 1) := by decide +kernel
theorem dX5_power_1 : decode cX5_power 1 = .ok (.istore_n 2, 1) := by decide +kernel
theorem dX5_power_2 : decode cX5_power 2 = .ok (.iconst 0, 1) := by decide +kernel
theorem dX5_power_3 : decode cX5_power 3 = .ok (.istore_n 3, 1) := by decide +kernel
theorem dX5_power_4 : decode cX5_power 4 = .ok (.iload_n 3, 1) := by decide +kernel
theorem dX5_power_5 : decode cX5_power 5 = .ok (.iload_n 1, 1) := by decide +kernel
theorem dX5_power_6 : decode cX5_power 6 = .ok (.if_icmp .ge 13, 3) := by decide +kernel
theorem dX5_power_9 : decode cX5_power 9 = .ok (.iload_n 2, 1) := by decide +kernel
theorem dX5_power_10 : decode cX5_power 10 = .ok (.iload_n 0, 1) := by decide +kernel
theorem dX5_power_11 : decode cX5_power 11 = .ok (.imul, 1) := by decide +kernel
theorem dX5_power_12 : decode cX5_power 12 = .ok (.istore_n 2, 1) := by decide +kernel
theorem dX5_power_13 : decode cX5_power 13 = .ok (.iinc 3 1, 3) := by decide +kernel
theorem dX5_power_16 : decode cX5_power 16 = .ok (.goto (-12), 3) := by decide +kernel
theorem dX5_power_19 : decode cX5_power 19 = .ok (.iload_n 2, 1) := by decide +kernel
theorem dX5_power_20 : decode cX5_power 20 = .ok (.ireturn, 1) := by decide +kernel
set_option maxRecDepth 100000 in
set_option maxHeartbeats 4000000 in
theorem m_X5_power {l : Launch} {D : va_G} {E : Nat → ClassId} {T : Nat → Nat} (a : Int32) (n : Nat) (hn : n < 100) : g_M l D E T yX5_power wsX5_power 0 0 [.int a, .int (nI n)] [] [] (some (.int (pwF a n))) := by
  refine g_M.of (cc := cX5_power) (nL := 4) (ret := (some .int)) (own := RX5) (lv := [(0, .int a), (1, .int (nI n))]) (by decide) rfl rfl (Nat.le_of_ble_eq_true rfl) rfl ?_
  intro p e R s m args below meth c A Q H locs ls hR hQ hc hr hw hl
  have hx := hc.1
  have hb := hc.2.1
  have hts := hc.2.2.2.1
  have hown := hc.2.2.2.2.1
  refine lv_iconst (v := 1) hx hb dX5_power_0 (by decide) ?_
  refine lv_istore_n (lv' := [(2, .int 1), (0, .int a), (1, .int (nI n))]) hx hb dX5_power_1 rfl hl (by decide) rfl (fun ls hl => ?_)
  refine lv_iconst (v := 0) hx hb dX5_power_2 (by decide) ?_
  refine lv_istore_n (lv' := [(3, .int 0), (2, .int 1), (0, .int a), (1, .int (nI n))]) hx hb dX5_power_3 rfl hl (by decide) rfl (fun ls hl => ?_)
  have J4 : ∀ (k9 : Nat) (i : Nat), i + k9 = n → ∀ (H : Heap) (locs : List Loc) (ls : Array Slot), g_W D A s [] H locs → lv_has ls 4 [(0, .int a), (1, .int (nI n)), (2, .int (pwF a i)), (3, .int (nI i))] → W p l e R s m args below meth c H locs 0 0 Q (F0 m 4 ls []) := by
    intro k9
    induction k9 with
    | zero =>
      intro i h9   H locs ls hw hl
      have h9 : n = i := Eq.symm h9
      subst h9
      refine lv_iload_n hx hb dX5_power_4 rfl (lv_at hl 3 rfl) ?_
      refine lv_iload_n hx hb dX5_power_5 rfl (lv_at hl 1 rfl) ?_
      refine lv_icmp_ge (tgt := 19) hx hb dX5_power_6 (by decide) (fun c_6 => ?_) (fun c_6 => absurd (by first | exact Int32.le_refl _ | decide) c_6)
      refine lv_iload_n hx hb dX5_power_19 rfl (lv_at hl 2 rfl) ?_
      exact g_iret hQ hc hw hr rfl rfl dX5_power_20
    | succ k9 ih =>
      intro i h9   H locs ls hw hl
      have h9b : i < n := by omega
      refine lv_iload_n hx hb dX5_power_4 rfl (lv_at hl 3 rfl) ?_
      refine lv_iload_n hx hb dX5_power_5 rfl (lv_at hl 1 rfl) ?_
      refine lv_icmp_ge (tgt := 19) hx hb dX5_power_6 (by decide) (fun c_6 => absurd c_6 (nI_ge h9b (by omega))) (fun c_6 => ?_)
      refine lv_iload_n hx hb dX5_power_9 rfl (lv_at hl 2 rfl) ?_
      refine lv_iload_n hx hb dX5_power_10 rfl (lv_at hl 0 rfl) ?_
      refine lv_imul hx hb dX5_power_11 ?_
      refine lv_istore_n (lv' := [(2, .int ((pwF a i) * a)), (0, .int a), (1, .int (nI n)), (3, .int (nI i))]) hx hb dX5_power_12 rfl hl (by decide) rfl (fun ls hl => ?_)
      refine lv_iinc (v := nI (i + 1)) (lv' := [(3, .int (nI (i + 1))), (2, .int ((pwF a i) * a)), (0, .int a), (1, .int (nI n))]) hx hb dX5_power_13 hl (k := 3) rfl (n_inc1 rfl) (by decide) rfl (fun ls hl => ?_)
      refine lv_goto (tgt := 4) hx hb dX5_power_16 (by decide) ?_
      exact ih (i + 1) (by omega)   _ _ _ hw (lv_sub hl [2, 3, 1, 0] rfl)
  exact J4 n 0 (by omega)   _ _ _ hw (lv_sub hl [2, 3, 1, 0] rfl)

theorem dX5_factorial_0 : decode cX5_factorial 0 = .ok (.iconst 1, 1) := by decide +kernel
theorem dX5_factorial_1 : decode cX5_factorial 1 = .ok (.istore_n 1, 1) := by decide +kernel
theorem dX5_factorial_2 : decode cX5_factorial 2 = .ok (.iconst 2, 1) := by decide +kernel
theorem dX5_factorial_3 : decode cX5_factorial 3 = .ok (.istore_n 2, 1) := by decide +kernel
theorem dX5_factorial_4 : decode cX5_factorial 4 = .ok (.iload_n 2, 1) := by decide +kernel
theorem dX5_factorial_5 : decode cX5_factorial 5 = .ok (.iload_n 0, 1) := by decide +kernel
theorem dX5_factorial_6 : decode cX5_factorial 6 = .ok (.if_icmp .gt 13, 3) := by decide +kernel
theorem dX5_factorial_9 : decode cX5_factorial 9 = .ok (.iload_n 1, 1) := by decide +kernel
theorem dX5_factorial_10 : decode cX5_factorial 10 = .ok (.iload_n 2, 1) := by decide +kernel
theorem dX5_factorial_11 : decode cX5_factorial 11 = .ok (.imul, 1) := by decide +kernel
theorem dX5_factorial_12 : decode cX5_factorial 12 = .ok (.istore_n 1, 1) := by decide +kernel
theorem dX5_factorial_13 : decode cX5_factorial 13 = .ok (.iinc 2 1, 3) := by decide +kernel
theorem dX5_factorial_16 : decode cX5_factorial 16 = .ok (.goto (-12), 3) := by decide +kernel
theorem dX5_factorial_19 : decode cX5_factorial 19 = .ok (.iload_n 1, 1) := by decide +kernel
theorem dX5_factorial_20 : decode cX5_factorial 20 = .ok (.ireturn, 1) := by decide +kernel
set_option maxRecDepth 100000 in
set_option maxHeartbeats 4000000 in
theorem m_X5_factorial {l : Launch} {D : va_G} {E : Nat → ClassId} {T : Nat → Nat} (n : Nat) (hn : n < 100) : g_M l D E T yX5_factorial wsX5_factorial 0 0 [.int (nI n)] [] [] (some (.int (facF n))) := by
  refine g_M.of (cc := cX5_factorial) (nL := 3) (ret := (some .int)) (own := RX5) (lv := [(0, .int (nI n))]) (by decide) rfl rfl (Nat.le_of_ble_eq_true rfl) rfl ?_
  intro p e R s m args below meth c A Q H locs ls hR hQ hc hr hw hl
  have hx := hc.1
  have hb := hc.2.1
  have hts := hc.2.2.2.1
  have hown := hc.2.2.2.2.1
  refine lv_iconst (v := 1) hx hb dX5_factorial_0 (by decide) ?_
  refine lv_istore_n (lv' := [(1, .int 1), (0, .int (nI n))]) hx hb dX5_factorial_1 rfl hl (by decide) rfl (fun ls hl => ?_)
  refine lv_iconst (v := 2) hx hb dX5_factorial_2 (by decide) ?_
  refine lv_istore_n (lv' := [(2, .int 2), (1, .int 1), (0, .int (nI n))]) hx hb dX5_factorial_3 rfl hl (by decide) rfl (fun ls hl => ?_)
  have J4 : ∀ (k9 : Nat) (i : Nat), i + k9 = n → (i + 1 ≤ max n 1) → ∀ (H : Heap) (locs : List Loc) (ls : Array Slot), g_W D A s [] H locs → lv_has ls 3 [(0, .int (nI n)), (1, .int (facF (i + 1))), (2, .int (nI (i + 2)))] → W p l e R s m args below meth c H locs 0 0 Q (F0 m 4 ls []) := by
    intro k9
    induction k9 with
    | zero =>
      intro i h9  hi H locs ls hw hl
      have h9 : n = i := Eq.symm h9
      subst h9
      refine lv_iload_n hx hb dX5_factorial_4 rfl (lv_at hl 2 rfl) ?_
      refine lv_iload_n hx hb dX5_factorial_5 rfl (lv_at hl 0 rfl) ?_
      refine lv_icmp_gt (tgt := 19) hx hb dX5_factorial_6 (by decide) (fun c_6 => ?_) (fun c_6 => absurd (nI_lt (show n < n + 2 by omega) (by omega)) c_6)
      refine lv_iload_n hx hb dX5_factorial_19 rfl (lv_at hl 1 rfl) ?_
      exact g_iret hQ hc hw hr (by exact congrArg (fun z => some (Value.int z)) (fac_leaf (i := n) hi (by omega)).symm) rfl dX5_factorial_20
    | succ k9 ih =>
      intro i h9  hi H locs ls hw hl
      have h9b : i < n := by omega
      refine lv_iload_n hx hb dX5_factorial_4 rfl (lv_at hl 2 rfl) ?_
      refine lv_iload_n hx hb dX5_factorial_5 rfl (lv_at hl 0 rfl) ?_
      refine lv_icmp_gt (tgt := 19) hx hb dX5_factorial_6 (by decide) (fun c_6 => ?_) (fun c_6 => ?_)
      · skip
        have h6 : n < i + 2 := (nI_ltI (by omega) (by omega)).mp c_6
        refine lv_iload_n hx hb dX5_factorial_19 rfl (lv_at hl 1 rfl) ?_
        exact g_iret hQ hc hw hr (by exact congrArg (fun z => some (Value.int z)) (fac_leaf hi h6).symm) rfl dX5_factorial_20
      · skip
        have h6 : i + 2 ≤ n := Nat.not_lt.mp (fun q => c_6 ((nI_ltI (by omega) (by omega)).mpr q))
        refine lv_iload_n hx hb dX5_factorial_9 rfl (lv_at hl 1 rfl) ?_
        refine lv_iload_n hx hb dX5_factorial_10 rfl (lv_at hl 2 rfl) ?_
        refine lv_imul hx hb dX5_factorial_11 ?_
        refine lv_istore_n (lv' := [(1, .int ((facF (i + 1)) * (nI (i + 2)))), (0, .int (nI n)), (2, .int (nI (i + 2)))]) hx hb dX5_factorial_12 rfl hl (by decide) rfl (fun ls hl => ?_)
        refine lv_iinc (v := nI ((i + 2) + 1)) (lv' := [(2, .int (nI ((i + 2) + 1))), (1, .int ((facF (i + 1)) * (nI (i + 2)))), (0, .int (nI n))]) hx hb dX5_factorial_13 hl (k := 2) rfl (n_inc1 rfl) (by decide) rfl (fun ls hl => ?_)
        refine lv_goto (tgt := 4) hx hb dX5_factorial_16 (by decide) ?_
        exact ih (i + 1) (by omega)  (by omega) _ _ _ hw (lv_sub hl [2, 1, 0] rfl)
  exact J4 n 0 (by omega)  (by omega) _ _ _ hw (lv_sub hl [2, 1, 0] rfl)

theorem dX5_rowsOf_0 : decode cX5_rowsOf 0 = .ok (.lconst 1, 1) := by decide +kernel
theorem dX5_rowsOf_1 : decode cX5_rowsOf 1 = .ok (.lstore_n 1, 1) := by decide +kernel
theorem dX5_rowsOf_2 : decode cX5_rowsOf 2 = .ok (.iconst 0, 1) := by decide +kernel
theorem dX5_rowsOf_3 : decode cX5_rowsOf 3 = .ok (.istore_n 3, 1) := by decide +kernel
theorem dX5_rowsOf_4 : decode cX5_rowsOf 4 = .ok (.iload_n 3, 1) := by decide +kernel
theorem dX5_rowsOf_5 : decode cX5_rowsOf 5 = .ok (.iload_n 0, 1) := by decide +kernel
theorem dX5_rowsOf_6 : decode cX5_rowsOf 6 = .ok (.if_icmp .ge 15, 3) := by decide +kernel
theorem dX5_rowsOf_9 : decode cX5_rowsOf 9 = .ok (.lload_n 1, 1) := by decide +kernel
theorem dX5_rowsOf_10 : decode cX5_rowsOf 10 = .ok (.ldc2_w 278, 3) := by decide +kernel
theorem dX5_rowsOf_13 : decode cX5_rowsOf 13 = .ok (.lmul, 1) := by decide +kernel
theorem dX5_rowsOf_14 : decode cX5_rowsOf 14 = .ok (.lstore_n 1, 1) := by decide +kernel
theorem dX5_rowsOf_15 : decode cX5_rowsOf 15 = .ok (.iinc 3 1, 3) := by decide +kernel
theorem dX5_rowsOf_18 : decode cX5_rowsOf 18 = .ok (.goto (-14), 3) := by decide +kernel
theorem dX5_rowsOf_21 : decode cX5_rowsOf 21 = .ok (.lload_n 1, 1) := by decide +kernel
theorem dX5_rowsOf_22 : decode cX5_rowsOf 22 = .ok (.lreturn, 1) := by decide +kernel
set_option maxRecDepth 100000 in
set_option maxHeartbeats 4000000 in
theorem m_X5_rowsOf {l : Launch} {D : va_G} {E : Nat → ClassId} {T : Nat → Nat} (n : Nat) (hn : n < 100) : g_M l D E T yX5_rowsOf wsX5_rowsOf 0 0 [.int (nI n)] [] [] (some (.long (rwF n))) := by
  refine g_M.of (cc := cX5_rowsOf) (nL := 4) (ret := (some .long)) (own := RX5) (lv := [(0, .int (nI n))]) (by decide) rfl rfl (Nat.le_of_ble_eq_true rfl) rfl ?_
  intro p e R s m args below meth c A Q H locs ls hR hQ hc hr hw hl
  have hx := hc.1
  have hb := hc.2.1
  have hts := hc.2.2.2.1
  have hown := hc.2.2.2.2.1
  refine lv_lconst (v := 1) hx hb dX5_rowsOf_0 (by decide) ?_
  refine lv_lstore_n (lv' := [(1, .long 1), (0, .int (nI n))]) hx hb dX5_rowsOf_1 rfl hl (by decide) rfl (fun ls hl => ?_)
  refine lv_iconst (v := 0) hx hb dX5_rowsOf_2 (by decide) ?_
  refine lv_istore_n (lv' := [(3, .int 0), (1, .long 1), (0, .int (nI n))]) hx hb dX5_rowsOf_3 rfl hl (by decide) rfl (fun ls hl => ?_)
  have J4 : ∀ (k9 : Nat) (i : Nat), i + k9 = n → ∀ (H : Heap) (locs : List Loc) (ls : Array Slot), g_W D A s [] H locs → lv_has ls 4 [(0, .int (nI n)), (1, .long (rwF i)), (3, .int (nI i))] → W p l e R s m args below meth c H locs 0 0 Q (F0 m 4 ls []) := by
    intro k9
    induction k9 with
    | zero =>
      intro i h9   H locs ls hw hl
      have h9 : n = i := Eq.symm h9
      subst h9
      refine lv_iload_n hx hb dX5_rowsOf_4 rfl (lv_at hl 2 rfl) ?_
      refine lv_iload_n hx hb dX5_rowsOf_5 rfl (lv_at hl 0 rfl) ?_
      refine lv_icmp_ge (tgt := 21) hx hb dX5_rowsOf_6 (by decide) (fun c_6 => ?_) (fun c_6 => absurd (by first | exact Int32.le_refl _ | decide) c_6)
      refine lv_lload_n hx hb dX5_rowsOf_21 rfl (lv_at hl 1 rfl) ?_
      exact g_lret hQ hc hw hr rfl rfl dX5_rowsOf_22
    | succ k9 ih =>
      intro i h9   H locs ls hw hl
      have h9b : i < n := by omega
      refine lv_iload_n hx hb dX5_rowsOf_4 rfl (lv_at hl 2 rfl) ?_
      refine lv_iload_n hx hb dX5_rowsOf_5 rfl (lv_at hl 0 rfl) ?_
      refine lv_icmp_ge (tgt := 21) hx hb dX5_rowsOf_6 (by decide) (fun c_6 => absurd c_6 (nI_ge h9b (by omega))) (fun c_6 => ?_)
      refine lv_lload_n hx hb dX5_rowsOf_9 rfl (lv_at hl 1 rfl) ?_
      refine lv_ldc2 (v := 10000) hx hb hown (hts _ (List.mem_of_getElem? (i := 1) rfl)) dX5_rowsOf_10 ?_
      refine lv_lmul hx hb dX5_rowsOf_13 ?_
      refine lv_lstore_n (lv' := [(1, .long ((rwF i) * 10000)), (0, .int (nI n)), (3, .int (nI i))]) hx hb dX5_rowsOf_14 rfl hl (by decide) rfl (fun ls hl => ?_)
      refine lv_iinc (v := nI (i + 1)) (lv' := [(3, .int (nI (i + 1))), (1, .long ((rwF i) * 10000)), (0, .int (nI n))]) hx hb dX5_rowsOf_15 hl (k := 2) rfl (n_inc1 rfl) (by decide) rfl (fun ls hl => ?_)
      refine lv_goto (tgt := 4) hx hb dX5_rowsOf_18 (by decide) ?_
      exact ih (i + 1) (by omega)   _ _ _ hw (lv_sub hl [2, 1, 0] rfl)
  exact J4 n 0 (by omega)   _ _ _ hw (lv_sub hl [2, 1, 0] rfl)

theorem dX5_statementOf_0 : decode cX5_statementOf 0 = .ok (.lload_n 1, 1) := by decide +kernel
theorem dX5_statementOf_1 : decode cX5_statementOf 1 = .ok (.lstore 4, 2) := by decide +kernel
theorem dX5_statementOf_3 : decode cX5_statementOf 3 = .ok (.iload_n 3, 1) := by decide +kernel
theorem dX5_statementOf_4 : decode cX5_statementOf 4 = .ok (.iconst 1, 1) := by decide +kernel
theorem dX5_statementOf_5 : decode cX5_statementOf 5 = .ok (.iadd, 1) := by decide +kernel
theorem dX5_statementOf_6 : decode cX5_statementOf 6 = .ok (.istore 6, 2) := by decide +kernel
theorem dX5_statementOf_8 : decode cX5_statementOf 8 = .ok (.iload 6, 2) := by decide +kernel
theorem dX5_statementOf_10 : decode cX5_statementOf 10 = .ok (.iload_n 0, 1) := by decide +kernel
theorem dX5_statementOf_11 : decode cX5_statementOf 11 = .ok (.if_icmp .ge 17, 3) := by decide +kernel
theorem dX5_statementOf_14 : decode cX5_statementOf 14 = .ok (.lload 4, 2) := by decide +kernel
theorem dX5_statementOf_16 : decode cX5_statementOf 16 = .ok (.ldc2_w 278, 3) := by decide +kernel
theorem dX5_statementOf_19 : decode cX5_statementOf 19 = .ok (.ldiv, 1) := by decide +kernel
theorem dX5_statementOf_20 : decode cX5_statementOf 20 = .ok (.lstore 4, 2) := by decide +kernel
theorem dX5_statementOf_22 : decode cX5_statementOf 22 = .ok (.iinc 6 1, 3) := by decide +kernel
theorem dX5_statementOf_25 : decode cX5_statementOf 25 = .ok (.goto (-17), 3) := by decide +kernel
theorem dX5_statementOf_28 : decode cX5_statementOf 28 = .ok (.lload 4, 2) := by decide +kernel
theorem dX5_statementOf_30 : decode cX5_statementOf 30 = .ok (.ldc2_w 278, 3) := by decide +kernel
theorem dX5_statementOf_33 : decode cX5_statementOf 33 = .ok (.lrem, 1) := by decide +kernel
theorem dX5_statementOf_34 : decode cX5_statementOf 34 = .ok (.l2i, 1) := by decide +kernel
theorem dX5_statementOf_35 : decode cX5_statementOf 35 = .ok (.ireturn, 1) := by decide +kernel
set_option maxRecDepth 100000 in
set_option maxHeartbeats 4000000 in
theorem m_X5_statementOf {l : Launch} {D : va_G} {E : Nat → ClassId} {T : Nat → Nat} (n : Nat) (row : Nat) (k : Nat) (hn : n < 100) (hk : k < n) (hr9 : row < 2 ^ 62) : g_M l D E T yX5_statementOf wsX5_statementOf 0 0 [.int (nI n), .long (lN row), .int (nI k)] [] [] (some (.int (nI (row / 10000 ^ (n - 1 - k) % 10000)))) := by
  refine g_M.of (cc := cX5_statementOf) (nL := 7) (ret := (some .int)) (own := RX5) (lv := [(0, .int (nI n)), (1, .long (lN row)), (3, .int (nI k))]) (by decide) rfl rfl (Nat.le_of_ble_eq_true rfl) rfl ?_
  intro p e R s m args below meth c A Q H locs ls hR hQ hc hr hw hl
  have hx := hc.1
  have hb := hc.2.1
  have hts := hc.2.2.2.1
  have hown := hc.2.2.2.2.1
  refine lv_lload_n hx hb dX5_statementOf_0 rfl (lv_at hl 1 rfl) ?_
  refine lv_lstore (lv' := [(4, .long (lN row)), (0, .int (nI n)), (1, .long (lN row)), (3, .int (nI k))]) hx hb dX5_statementOf_1 hl (by decide) rfl (fun ls hl => ?_)
  refine lv_iload_n hx hb dX5_statementOf_3 rfl (lv_at hl 3 rfl) ?_
  refine lv_iconst (v := 1) hx hb dX5_statementOf_4 (by decide) ?_
  refine lv_iadd hx hb dX5_statementOf_5 ?_
  refine W.eq (congrArg (fun z => F0 m 6 ls (.int z :: [])) (show ((nI k) + 1 : Int32) = nI (k + 1) from (n_add rfl rfl))) ?_
  refine lv_istore (lv' := [(6, .int (nI (k + 1))), (4, .long (lN row)), (0, .int (nI n)), (1, .long (lN row)), (3, .int (nI k))]) hx hb dX5_statementOf_6 hl (by decide) rfl (fun ls hl => ?_)
  have J8 : ∀ (k9 : Nat) (i : Nat), i + k9 = n - 1 - k → ∀ (H : Heap) (locs : List Loc) (ls : Array Slot), g_W D A s [] H locs → lv_has ls 7 [(0, .int (nI n)), (1, .long (lN row)), (3, .int (nI k)), (4, .long (lN (row / 10000 ^ i))), (6, .int (nI (k + 1 + i)))] → W p l e R s m args below meth c H locs 0 0 Q (F0 m 8 ls []) := by
    intro k9
    induction k9 with
    | zero =>
      intro i h9   H locs ls hw hl
      have h9 : i = n - 1 - k := h9
      subst h9
      refine lv_iload hx hb dX5_statementOf_8 (lv_at hl 4 rfl) ?_
      refine lv_iload_n hx hb dX5_statementOf_10 rfl (lv_at hl 0 rfl) ?_
      refine lv_icmp_ge (tgt := 28) hx hb dX5_statementOf_11 (by decide) (fun c_11 => ?_) (fun c_11 => absurd (by rw [show k + 1 + (n - 1 - k) = n by omega]; exact Int32.le_refl _) c_11)
      refine lv_lload hx hb dX5_statementOf_28 (lv_at hl 3 rfl) ?_
      refine lv_ldc2 (v := 10000) hx hb hown (hts _ (List.mem_of_getElem? (i := 1) rfl)) dX5_statementOf_30 ?_
      refine lv_lrem hx hb dX5_statementOf_33 (by decide) ?_
      refine lv_l2i hx hb dX5_statementOf_34 rfl ?_
      exact g_iret hQ hc hw hr (by exact congrArg (fun z => some (Value.int z)) (st_mod row (n - 1 - k) hr9)) rfl dX5_statementOf_35
    | succ k9 ih =>
      intro i h9   H locs ls hw hl
      have h9b : i < n - 1 - k := by omega
      refine lv_iload hx hb dX5_statementOf_8 (lv_at hl 4 rfl) ?_
      refine lv_iload_n hx hb dX5_statementOf_10 rfl (lv_at hl 0 rfl) ?_
      refine lv_icmp_ge (tgt := 28) hx hb dX5_statementOf_11 (by decide) (fun c_11 => absurd c_11 (nI_ge (show k + 1 + i < n by omega) (by omega))) (fun c_11 => ?_)
      refine lv_lload hx hb dX5_statementOf_14 (lv_at hl 3 rfl) ?_
      refine lv_ldc2 (v := 10000) hx hb hown (hts _ (List.mem_of_getElem? (i := 1) rfl)) dX5_statementOf_16 ?_
      refine lv_ldiv hx hb dX5_statementOf_19 (by decide) ?_
      refine W.eq (congrArg (fun z => F0 m 20 ls (.long z :: [])) (show ((lN (row / 10000 ^ i)) / 10000 : Int64) = lN (row / 10000 ^ (i + 1)) from (st_div row i hr9))) ?_
      refine lv_lstore (lv' := [(4, .long (lN (row / 10000 ^ (i + 1)))), (0, .int (nI n)), (1, .long (lN row)), (3, .int (nI k)), (6, .int (nI (k + 1 + i)))]) hx hb dX5_statementOf_20 hl (by decide) rfl (fun ls hl => ?_)
      refine lv_iinc (v := nI ((k + 1 + i) + 1)) (lv' := [(6, .int (nI ((k + 1 + i) + 1))), (4, .long (lN (row / 10000 ^ (i + 1)))), (0, .int (nI n)), (1, .long (lN row)), (3, .int (nI k))]) hx hb dX5_statementOf_22 hl (k := 4) rfl (n_inc1 rfl) (by decide) rfl (fun ls hl => ?_)
      refine lv_goto (tgt := 8) hx hb dX5_statementOf_25 (by decide) ?_
      exact ih (i + 1) (by omega)   _ _ _ hw (lv_sub hl [2, 3, 4, 1, 0] rfl)
  have hl := lv_conv hl 1 rfl (v' := (.long (lN (row / 10000 ^ 0)))) (by rw [Nat.pow_zero, Nat.div_one])
  have hl : lv_has ls 7 [(6, .int (nI (k + 1))), (4, .long (lN (row / 10000 ^ 0))), (0, .int (nI n)), (1, .long (lN row)), (3, .int (nI k))] := hl
  exact J8 (n - 1 - k) 0 (by omega)   _ _ _ hw (lv_sub hl [2, 3, 4, 1, 0] rfl)

theorem dX5_partOfLowest_0 : decode cX5_partOfLowest 0 = .ok (.iload_n 1, 1) := by decide +kernel
theorem dX5_partOfLowest_1 : decode cX5_partOfLowest 1 = .ok (.istore_n 3, 1) := by decide +kernel
theorem dX5_partOfLowest_2 : decode cX5_partOfLowest 2 = .ok (.iload_n 0, 1) := by decide +kernel
theorem dX5_partOfLowest_3 : decode cX5_partOfLowest 3 = .ok (.invokestatic 295, 3) := by decide +kernel
theorem dX5_partOfLowest_6 : decode cX5_partOfLowest 6 = .ok (.istore 4, 2) := by decide +kernel
theorem dX5_partOfLowest_8 : decode cX5_partOfLowest 8 = .ok (.iconst 0, 1) := by decide +kernel
theorem dX5_partOfLowest_9 : decode cX5_partOfLowest 9 = .ok (.istore 5, 2) := by decide +kernel
theorem dX5_partOfLowest_11 : decode cX5_partOfLowest 11 = .ok (.iload 5, 2) := by decide +kernel
theorem dX5_partOfLowest_13 : decode cX5_partOfLowest 13 = .ok (.bipush 64, 2) := by decide +kernel
theorem dX5_partOfLowest_15 : decode cX5_partOfLowest 15 = .ok (.if_icmp .ge 27, 3) := by decide +kernel
theorem dX5_partOfLowest_18 : decode cX5_partOfLowest 18 = .ok (.iload 4, 2) := by decide +kernel
theorem dX5_partOfLowest_20 : decode cX5_partOfLowest 20 = .ok (.ifCond .eq 22, 3) := by decide +kernel
theorem dX5_partOfLowest_23 : decode cX5_partOfLowest 23 = .ok (.iload_n 3, 1) := by decide +kernel
theorem dX5_partOfLowest_24 : decode cX5_partOfLowest 24 = .ok (.iload 4, 2) := by decide +kernel
theorem dX5_partOfLowest_26 : decode cX5_partOfLowest 26 = .ok (.irem, 1) := by decide +kernel
theorem dX5_partOfLowest_27 : decode cX5_partOfLowest 27 = .ok (.istore 6, 2) := by decide +kernel
theorem dX5_partOfLowest_29 : decode cX5_partOfLowest 29 = .ok (.iload 4, 2) := by decide +kernel
theorem dX5_partOfLowest_31 : decode cX5_partOfLowest 31 = .ok (.istore_n 3, 1) := by decide +kernel
theorem dX5_partOfLowest_32 : decode cX5_partOfLowest 32 = .ok (.iload 6, 2) := by decide +kernel
theorem dX5_partOfLowest_34 : decode cX5_partOfLowest 34 = .ok (.istore 4, 2) := by decide +kernel
theorem dX5_partOfLowest_36 : decode cX5_partOfLowest 36 = .ok (.iinc 5 1, 3) := by decide +kernel
theorem dX5_partOfLowest_39 : decode cX5_partOfLowest 39 = .ok (.goto (-28), 3) := by decide +kernel
theorem dX5_partOfLowest_42 : decode cX5_partOfLowest 42 = .ok (.iload_n 2, 1) := by decide +kernel
theorem dX5_partOfLowest_43 : decode cX5_partOfLowest 43 = .ok (.ifCond .eq 7, 3) := by decide +kernel
theorem dX5_partOfLowest_46 : decode cX5_partOfLowest 46 = .ok (.iload_n 0, 1) := by decide +kernel
theorem dX5_partOfLowest_47 : decode cX5_partOfLowest 47 = .ok (.goto 4, 3) := by decide +kernel
theorem dX5_partOfLowest_50 : decode cX5_partOfLowest 50 = .ok (.iload_n 1, 1) := by decide +kernel
theorem dX5_partOfLowest_51 : decode cX5_partOfLowest 51 = .ok (.istore 5, 2) := by decide +kernel
theorem dX5_partOfLowest_53 : decode cX5_partOfLowest 53 = .ok (.iload_n 3, 1) := by decide +kernel
theorem dX5_partOfLowest_54 : decode cX5_partOfLowest 54 = .ok (.ifCond .ne 8, 3) := by decide +kernel
theorem dX5_partOfLowest_62 : decode cX5_partOfLowest 62 = .ok (.iload 5, 2) := by decide +kernel
theorem dX5_partOfLowest_64 : decode cX5_partOfLowest 64 = .ok (.iload_n 3, 1) := by decide +kernel
theorem dX5_partOfLowest_65 : decode cX5_partOfLowest 65 = .ok (.idiv, 1) := by decide +kernel
theorem dX5_partOfLowest_66 : decode cX5_partOfLowest 66 = .ok (.ireturn, 1) := by decide +kernel
set_option maxRecDepth 100000 in
set_option maxHeartbeats 4000000 in
theorem m_X5_partOfLowest {l : Launch} {D : va_G} {E : Nat → ClassId} {T : Nat → Nat} (over : Int32) (u : Nat) (w : Nat) (up : Bool) (hab : (if 0 ≤ over then over else 0 - over) = nI w) (hw9 : w < 2 ^ 31) (hu0 : 0 < u) (hu : u < 2 ^ 31) : g_M l D E T yX5_partOfLowest wsX5_partOfLowest 1 21 [.int over, .int (nI u), .int (b2i up)] [] [] (some (.int (frF over u w up))) := by
  refine g_M.of (cc := cX5_partOfLowest) (nL := 7) (ret := (some .int)) (own := RX5) (lv := [(0, .int over), (1, .int (nI u)), (2, .int (b2i up))]) (by decide) rfl rfl (Nat.le_of_ble_eq_true rfl) rfl ?_
  intro p e R s m args below meth c A Q H locs ls hR hQ hc hr hw hl
  have hx := hc.1
  have hb := hc.2.1
  have hts := hc.2.2.2.1
  have hown := hc.2.2.2.2.1
  refine lv_iload_n hx hb dX5_partOfLowest_0 rfl (lv_at hl 1 rfl) ?_
  refine lv_istore_n (lv' := [(3, .int (nI u)), (0, .int over), (1, .int (nI u)), (2, .int (b2i up))]) hx hb dX5_partOfLowest_1 rfl hl (by decide) rfl (fun ls hl => ?_)
  refine lv_iload_n hx hb dX5_partOfLowest_2 rfl (lv_at hl 1 rfl) ?_
  refine va_mabs hx hb (hc.2.2.1.trans hl.1.symm) hown (hts _ (List.mem_of_getElem? (i := 1) rfl)) (hts _ (List.mem_of_getElem? (i := 2) rfl)) (hts _ (List.mem_of_getElem? (i := 3) rfl)) (hts _ (List.mem_of_getElem? (i := 4) rfl)) (by rw [hR]; exact Nat.le_of_ble_eq_true rfl) (by rw [hR]; exact Nat.le_of_ble_eq_true rfl) (Nat.zero_le _) (Nat.zero_le _) dX5_partOfLowest_3 ?_
  refine W.eq (congrArg (fun z => F0 m 6 ls (.int z :: [])) (show (if 0 ≤ over then over else 0 - over : Int32) = nI w from hab)) ?_
  refine lv_istore (lv' := [(4, .int (nI w)), (3, .int (nI u)), (0, .int over), (1, .int (nI u)), (2, .int (b2i up))]) hx hb dX5_partOfLowest_6 hl (by decide) rfl (fun ls hl => ?_)
  have hgp : 0 < Nat.gcd w u := Nat.gcd_pos_of_pos_right _ hu0
  have hgl : Nat.gcd w u ≤ u := Nat.le_of_dvd hu0 (Nat.gcd_dvd_right w u)
  have J42 : ∀ (dv : Nat), (dv = Nat.gcd w u) → ∀ (H : Heap) (locs : List Loc) (ls : Array Slot), g_W D A s [] H locs → lv_has ls 7 [(0, .int over), (1, .int (nI u)), (2, .int (b2i up)), (3, .int (nI dv))] → W p l e R s m args below meth c H locs 0 0 Q (F0 m 42 ls []) := by
    intro dv hg H locs ls hw hl
    refine lv_iload_n hx hb dX5_partOfLowest_42 rfl (lv_at hl 2 rfl) ?_
    refine lv_if_eq (tgt := 50) hx hb dX5_partOfLowest_43 (by decide) (fun c_43 => ?_) (fun c_43 => ?_)
    · skip
      have k_43 := b2i_eq c_43
      refine lv_iload_n hx hb dX5_partOfLowest_50 rfl (lv_at hl 1 rfl) ?_
      refine lv_istore (lv' := [(5, .int (nI u)), (0, .int over), (1, .int (nI u)), (2, .int (b2i up)), (3, .int (nI dv))]) hx hb dX5_partOfLowest_51 hl (by decide) rfl (fun ls hl => ?_)
      refine lv_iload_n hx hb dX5_partOfLowest_53 rfl (lv_at hl 4 rfl) ?_
      refine lv_if_ne (tgt := 62) hx hb dX5_partOfLowest_54 (by decide) (fun c_54 => ?_) (fun c_54 => absurd c_54 (nI_ne0 (by omega) (by omega)))
      refine lv_iload hx hb dX5_partOfLowest_62 (lv_at hl 0 rfl) ?_
      refine lv_iload_n hx hb dX5_partOfLowest_64 rfl (lv_at hl 4 rfl) ?_
      refine lv_idiv hx hb dX5_partOfLowest_65 (nI_ne0 (by omega) (by omega)) ?_
      exact g_iret hQ hc hw hr (by exact congrArg (fun z => some (Value.int z)) (by rw [hg, show up = false from b2i_eq c_43]; rfl)) rfl dX5_partOfLowest_66
    · skip
      have k_43 := b2i_ne c_43
      refine lv_iload_n hx hb dX5_partOfLowest_46 rfl (lv_at hl 0 rfl) ?_
      refine lv_goto (tgt := 51) hx hb dX5_partOfLowest_47 (by decide) ?_
      refine lv_istore (lv' := [(5, .int over), (0, .int over), (1, .int (nI u)), (2, .int (b2i up)), (3, .int (nI dv))]) hx hb dX5_partOfLowest_51 hl (by decide) rfl (fun ls hl => ?_)
      refine lv_iload_n hx hb dX5_partOfLowest_53 rfl (lv_at hl 4 rfl) ?_
      refine lv_if_ne (tgt := 62) hx hb dX5_partOfLowest_54 (by decide) (fun c_54 => ?_) (fun c_54 => absurd c_54 (nI_ne0 (by omega) (by omega)))
      refine lv_iload hx hb dX5_partOfLowest_62 (lv_at hl 0 rfl) ?_
      refine lv_iload_n hx hb dX5_partOfLowest_64 rfl (lv_at hl 4 rfl) ?_
      refine lv_idiv hx hb dX5_partOfLowest_65 (nI_ne0 (by omega) (by omega)) ?_
      exact g_iret hQ hc hw hr (by exact congrArg (fun z => some (Value.int z)) (by rw [hg, show up = true from b2i_ne c_43]; rfl)) rfl dX5_partOfLowest_66
  refine lv_iconst (v := 0) hx hb dX5_partOfLowest_8 (by decide) ?_
  refine lv_istore (lv' := [(5, .int 0), (4, .int (nI w)), (3, .int (nI u)), (0, .int over), (1, .int (nI u)), (2, .int (b2i up))]) hx hb dX5_partOfLowest_9 hl (by decide) rfl (fun ls hl => ?_)
  have J11 : ∀ (k9 : Nat) (i : Nat), i + k9 = 64 → ∀ (dv : Nat) (rs : Nat), (euI u w i dv rs) → ∀ (H : Heap) (locs : List Loc) (ls : Array Slot), g_W D A s [] H locs → lv_has ls 7 [(0, .int over), (1, .int (nI u)), (2, .int (b2i up)), (3, .int (nI dv)), (4, .int (nI rs)), (5, .int (nI i))] → W p l e R s m args below meth c H locs 0 0 Q (F0 m 11 ls []) := by
    intro k9
    induction k9 with
    | zero =>
      intro i h9 dv rs he H locs ls hw hl
      have h9 : i = 64 := h9
      subst h9
      refine lv_iload hx hb dX5_partOfLowest_11 (lv_at hl 5 rfl) ?_
      refine lv_bipush (v := 64) hx hb dX5_partOfLowest_13 (by decide) ?_
      refine lv_icmp_ge (tgt := 42) hx hb dX5_partOfLowest_15 (by decide) (fun c_15 => ?_) (fun c_15 => absurd (by first | exact Int32.le_refl _ | decide) c_15)
      exact J42 dv (eu_end he (eu_64 he hw9)) _ _ _ hw (lv_sub hl [0, 1, 2, 3] rfl)
    | succ k9 ih =>
      intro i h9 dv rs he H locs ls hw hl
      have h9b : i < 64 := by omega
      refine lv_iload hx hb dX5_partOfLowest_11 (lv_at hl 5 rfl) ?_
      refine lv_bipush (v := 64) hx hb dX5_partOfLowest_13 (by decide) ?_
      refine lv_icmp_ge (tgt := 42) hx hb dX5_partOfLowest_15 (by decide) (fun c_15 => absurd c_15 (nI_ge h9b (by decide))) (fun c_15 => ?_)
      refine lv_iload hx hb dX5_partOfLowest_18 (lv_at hl 4 rfl) ?_
      refine lv_if_eq (tgt := 42) hx hb dX5_partOfLowest_20 (by decide) (fun c_20 => ?_) (fun c_20 => ?_)
      · skip
        have h20 : rs = 0 := (nI_eq (Nat.lt_of_le_of_lt (eu_le he) (by omega)) (by decide)).mp c_20
        exact J42 dv (eu_end he h20) _ _ _ hw (lv_sub hl [0, 1, 2, 3] rfl)
      · skip
        have h20 : 0 < rs := Nat.pos_of_ne_zero (fun q => c_20 (by rw [q]; rfl))
        have hrs31 : rs < 2 ^ 31 := Nat.lt_of_le_of_lt (eu_le he) (by omega)
        have hdv31 : dv < 2 ^ 31 := Nat.lt_of_le_of_lt he.2.2.2.2 (by omega)
        refine lv_iload_n hx hb dX5_partOfLowest_23 rfl (lv_at hl 3 rfl) ?_
        refine lv_iload hx hb dX5_partOfLowest_24 (lv_at hl 4 rfl) ?_
        refine lv_irem hx hb dX5_partOfLowest_26 (nI_ne0 h20 (Nat.lt_of_le_of_lt (eu_le he) (by omega))) ?_
        refine W.eq (congrArg (fun z => F0 m 27 ls (.int z :: [])) (show ((nI dv) - (nI dv) / (nI rs) * (nI rs) : Int32) = nI (dv % rs) from (n_rem rfl rfl (by omega) (by omega) (by omega)))) ?_
        refine lv_istore (lv' := [(6, .int (nI (dv % rs))), (0, .int over), (1, .int (nI u)), (2, .int (b2i up)), (3, .int (nI dv)), (4, .int (nI rs)), (5, .int (nI i))]) hx hb dX5_partOfLowest_27 hl (by decide) rfl (fun ls hl => ?_)
        refine lv_iload hx hb dX5_partOfLowest_29 (lv_at hl 5 rfl) ?_
        refine lv_istore_n (lv' := [(3, .int (nI rs)), (6, .int (nI (dv % rs))), (0, .int over), (1, .int (nI u)), (2, .int (b2i up)), (4, .int (nI rs)), (5, .int (nI i))]) hx hb dX5_partOfLowest_31 rfl hl (by decide) rfl (fun ls hl => ?_)
        refine lv_iload hx hb dX5_partOfLowest_32 (lv_at hl 1 rfl) ?_
        refine lv_istore (lv' := [(4, .int (nI (dv % rs))), (3, .int (nI rs)), (6, .int (nI (dv % rs))), (0, .int over), (1, .int (nI u)), (2, .int (b2i up)), (5, .int (nI i))]) hx hb dX5_partOfLowest_34 hl (by decide) rfl (fun ls hl => ?_)
        refine lv_iinc (v := nI (i + 1)) (lv' := [(5, .int (nI (i + 1))), (4, .int (nI (dv % rs))), (3, .int (nI rs)), (6, .int (nI (dv % rs))), (0, .int over), (1, .int (nI u)), (2, .int (b2i up))]) hx hb dX5_partOfLowest_36 hl (k := 6) rfl (n_inc1 rfl) (by decide) rfl (fun ls hl => ?_)
        refine lv_goto (tgt := 11) hx hb dX5_partOfLowest_39 (by decide) ?_
        exact ih (i + 1) (by omega) rs (dv % rs) (eu_s he h20) _ _ _ hw (lv_sub hl [4, 5, 6, 2, 1, 0] rfl)
  exact J11 64 0 (by omega) u w (eu_0 hu0) _ _ _ hw (lv_sub hl [3, 4, 5, 2, 1, 0] rfl)

theorem dX5_bitsOf_0 : decode cX5_bitsOf 0 = .ok (.fload_n 0, 1) := by decide +kernel
theorem dX5_bitsOf_1 : decode cX5_bitsOf 1 = .ok (.invokestatic 202, 3) := by decide +kernel
theorem dX5_bitsOf_4 : decode cX5_bitsOf 4 = .ok (.fstore_n 1, 1) := by decide +kernel
theorem dX5_bitsOf_5 : decode cX5_bitsOf 5 = .ok (.bipush 127, 2) := by decide +kernel
theorem dX5_bitsOf_7 : decode cX5_bitsOf 7 = .ok (.istore_n 2, 1) := by decide +kernel
theorem dX5_bitsOf_8 : decode cX5_bitsOf 8 = .ok (.iconst 0, 1) := by decide +kernel
theorem dX5_bitsOf_9 : decode cX5_bitsOf 9 = .ok (.istore_n 3, 1) := by decide +kernel
theorem dX5_bitsOf_10 : decode cX5_bitsOf 10 = .ok (.iload_n 3, 1) := by decide +kernel
theorem dX5_bitsOf_11 : decode cX5_bitsOf 11 = .ok (.bipush 127, 2) := by decide +kernel
theorem dX5_bitsOf_13 : decode cX5_bitsOf 13 = .ok (.if_icmp .ge 22, 3) := by decide +kernel
theorem dX5_bitsOf_16 : decode cX5_bitsOf 16 = .ok (.fload_n 1, 1) := by decide +kernel
theorem dX5_bitsOf_17 : decode cX5_bitsOf 17 = .ok (.fconst 2, 1) := by decide +kernel
theorem dX5_bitsOf_18 : decode cX5_bitsOf 18 = .ok (.fcmp .l, 1) := by decide +kernel
theorem dX5_bitsOf_19 : decode cX5_bitsOf 19 = .ok (.ifCond .lt 16, 3) := by decide +kernel
theorem dX5_bitsOf_22 : decode cX5_bitsOf 22 = .ok (.fload_n 1, 1) := by decide +kernel
theorem dX5_bitsOf_23 : decode cX5_bitsOf 23 = .ok (.fconst 2, 1) := by decide +kernel
theorem dX5_bitsOf_24 : decode cX5_bitsOf 24 = .ok (.fdiv, 1) := by decide +kernel
theorem dX5_bitsOf_25 : decode cX5_bitsOf 25 = .ok (.fstore_n 1, 1) := by decide +kernel
theorem dX5_bitsOf_26 : decode cX5_bitsOf 26 = .ok (.iinc 2 1, 3) := by decide +kernel
theorem dX5_bitsOf_29 : decode cX5_bitsOf 29 = .ok (.iinc 3 1, 3) := by decide +kernel
theorem dX5_bitsOf_32 : decode cX5_bitsOf 32 = .ok (.goto (-22), 3) := by decide +kernel
theorem dX5_bitsOf_35 : decode cX5_bitsOf 35 = .ok (.iconst 0, 1) := by decide +kernel
theorem dX5_bitsOf_36 : decode cX5_bitsOf 36 = .ok (.istore_n 3, 1) := by decide +kernel
theorem dX5_bitsOf_37 : decode cX5_bitsOf 37 = .ok (.iload_n 3, 1) := by decide +kernel
theorem dX5_bitsOf_38 : decode cX5_bitsOf 38 = .ok (.bipush 126, 2) := by decide +kernel
theorem dX5_bitsOf_40 : decode cX5_bitsOf 40 = .ok (.if_icmp .ge 22, 3) := by decide +kernel
theorem dX5_bitsOf_43 : decode cX5_bitsOf 43 = .ok (.fload_n 1, 1) := by decide +kernel
theorem dX5_bitsOf_44 : decode cX5_bitsOf 44 = .ok (.fconst 1, 1) := by decide +kernel
theorem dX5_bitsOf_45 : decode cX5_bitsOf 45 = .ok (.fcmp .g, 1) := by decide +kernel
theorem dX5_bitsOf_46 : decode cX5_bitsOf 46 = .ok (.ifCond .ge 16, 3) := by decide +kernel
theorem dX5_bitsOf_49 : decode cX5_bitsOf 49 = .ok (.fload_n 1, 1) := by decide +kernel
theorem dX5_bitsOf_50 : decode cX5_bitsOf 50 = .ok (.fconst 2, 1) := by decide +kernel
theorem dX5_bitsOf_51 : decode cX5_bitsOf 51 = .ok (.fmul, 1) := by decide +kernel
theorem dX5_bitsOf_52 : decode cX5_bitsOf 52 = .ok (.fstore_n 1, 1) := by decide +kernel
theorem dX5_bitsOf_53 : decode cX5_bitsOf 53 = .ok (.iinc 2 (-1), 3) := by decide +kernel
theorem dX5_bitsOf_56 : decode cX5_bitsOf 56 = .ok (.iinc 3 1, 3) := by decide +kernel
theorem dX5_bitsOf_59 : decode cX5_bitsOf 59 = .ok (.goto (-22), 3) := by decide +kernel
theorem dX5_bitsOf_62 : decode cX5_bitsOf 62 = .ok (.iload_n 2, 1) := by decide +kernel
theorem dX5_bitsOf_63 : decode cX5_bitsOf 63 = .ok (.iconst 1, 1) := by decide +kernel
theorem dX5_bitsOf_64 : decode cX5_bitsOf 64 = .ok (.isub, 1) := by decide +kernel
theorem dX5_bitsOf_65 : decode cX5_bitsOf 65 = .ok (.bipush 23, 2) := by decide +kernel
theorem dX5_bitsOf_67 : decode cX5_bitsOf 67 = .ok (.ishl, 1) := by decide +kernel
theorem dX5_bitsOf_68 : decode cX5_bitsOf 68 = .ok (.fload_n 1, 1) := by decide +kernel
theorem dX5_bitsOf_69 : decode cX5_bitsOf 69 = .ok (.ldc_w 301, 3) := by decide +kernel
theorem dX5_bitsOf_72 : decode cX5_bitsOf 72 = .ok (.fmul, 1) := by decide +kernel
theorem dX5_bitsOf_73 : decode cX5_bitsOf 73 = .ok (.f2i, 1) := by decide +kernel
theorem dX5_bitsOf_74 : decode cX5_bitsOf 74 = .ok (.iadd, 1) := by decide +kernel
theorem dX5_bitsOf_75 : decode cX5_bitsOf 75 = .ok (.istore_n 3, 1) := by decide +kernel
theorem dX5_bitsOf_76 : decode cX5_bitsOf 76 = .ok (.fload_n 0, 1) := by decide +kernel
theorem dX5_bitsOf_77 : decode cX5_bitsOf 77 = .ok (.fconst 0, 1) := by decide +kernel
theorem dX5_bitsOf_78 : decode cX5_bitsOf 78 = .ok (.fcmp .g, 1) := by decide +kernel
theorem dX5_bitsOf_79 : decode cX5_bitsOf 79 = .ok (.ifCond .ge 11, 3) := by decide +kernel
theorem dX5_bitsOf_82 : decode cX5_bitsOf 82 = .ok (.iload_n 3, 1) := by decide +kernel
theorem dX5_bitsOf_83 : decode cX5_bitsOf 83 = .ok (.ldc_w 302, 3) := by decide +kernel
theorem dX5_bitsOf_86 : decode cX5_bitsOf 86 = .ok (.ior, 1) := by decide +kernel
theorem dX5_bitsOf_87 : decode cX5_bitsOf 87 = .ok (.goto 4, 3) := by decide +kernel
theorem dX5_bitsOf_90 : decode cX5_bitsOf 90 = .ok (.iload_n 3, 1) := by decide +kernel
theorem dX5_bitsOf_91 : decode cX5_bitsOf 91 = .ok (.ireturn, 1) := by decide +kernel
set_option maxRecDepth 20000 in
theorem ggX5_bitsOf_X5_sizeOf : GoodIn wsX5_bitsOf wsX5_sizeOf := goodIn_r _ [6] rfl (by decide +kernel)
set_option maxRecDepth 20000 in
theorem gX5_bitsOf_X5_sizeOf : GoodIn wsX5_bitsOf (va_wsS RX5 202 yX5_sizeOf wsX5_sizeOf) := goodIn_app (goodIn_of _ (by decide +kernel)) ggX5_bitsOf_X5_sizeOf
set_option maxRecDepth 100000 in
set_option maxHeartbeats 4000000 in
theorem m_X5_bitsOf {l : Launch} {D : va_G} {E : Nat → ClassId} {T : Nat → Nat} (v : UInt32) (hv : g_mg 255 v) (hz : v ≠ nz) : g_M l D E T yX5_bitsOf wsX5_bitsOf 1 20 [.float v] [] [] (some (.int (bitI v))) := by
  refine g_M.of (cc := cX5_bitsOf) (nL := 4) (ret := (some .int)) (own := RX5) (lv := [(0, .float v)]) (by decide) rfl rfl (Nat.le_of_ble_eq_true rfl) rfl ?_
  intro p e R s m args below meth c A Q H locs ls hR hQ hc hr hw hl
  have hx := hc.1
  have hb := hc.2.1
  have hts := hc.2.2.2.1
  have hown := hc.2.2.2.2.1
  refine lv_fload_n hx hb dX5_bitsOf_0 rfl (lv_at hl 0 rfl) ?_
  refine g_cS (As := [.float v]) (n := 1) (rest := []) (wc := []) (w1 := []) (bytes := cX5_sizeOf) (maxL := 1) (ret := (some .float)) hc hw hl.1 (m_X5_sizeOf (l := l) (D := D) (E := E) (T := T) v) gX5_bitsOf_X5_sizeOf rfl (by decide +kernel) (by rw [hR]; exact ⟨Nat.le_of_ble_eq_true rfl, Nat.le_of_ble_eq_true rfl⟩) [] (by decide) rfl [] rfl rfl rfl rfl (Nat.le_of_ble_eq_true rfl) dX5_bitsOf_1 ⟨Nat.zero_le _, Nat.zero_le _⟩ (fun H locs hw => ?_)
  have hw : g_W D A s [] H locs := hw
  refine lv_fstore_n (lv' := [(1, .float (fsz v)), (0, .float v)]) hx hb dX5_bitsOf_4 rfl hl (by decide) rfl (fun ls hl => ?_)
  refine lv_bipush (v := 127) hx hb dX5_bitsOf_5 (by decide) ?_
  refine lv_istore_n (lv' := [(2, .int 127), (1, .float (fsz v)), (0, .float v)]) hx hb dX5_bitsOf_7 rfl hl (by decide) rfl (fun ls hl => ?_)
  have J35 : ∀ (r : UInt32) (i : Nat), (nn0 r) → (uv r * 2 ^ i = uv (fsz v)) → (uv r < 2 ^ 150) → (i = 0 ∨ 2 ^ 149 ≤ uv r) → (i ≤ 127) → ∀ (H : Heap) (locs : List Loc) (ls : Array Slot), g_W D A s [] H locs → lv_has ls 4 [(0, .float v), (1, .float r), (2, .int (nI (127 + i)))] → W p l e R s m args below meth c H locs 0 0 Q (F0 m 35 ls []) := by
    intro r i hr1 hrel hu hg hi H locs ls hw hl
    have J62 : ∀ (rr : UInt32) (ex : Nat), (nn0 rr) → (uv rr < 2 ^ 150) → (uv rr * 2 ^ ex = uv (fsz v) * 2 ^ 127) → (1 ≤ ex) → (ex < 255) → (2 ^ 149 ≤ uv rr ∨ ex = 1) → ∀ (H : Heap) (locs : List Loc) (ls : Array Slot), g_W D A s [] H locs → lv_has ls 4 [(0, .float v), (1, .float rr), (2, .int (nI ex))] → W p l e R s m args below meth c H locs 0 0 Q (F0 m 62 ls []) := by
      intro rr ex hr2 hu2 hl2 hex hexl hor H locs ls hw hl
      refine lv_iload_n hx hb dX5_bitsOf_62 rfl (lv_at hl 2 rfl) ?_
      refine lv_iconst (v := 1) hx hb dX5_bitsOf_63 (by decide) ?_
      refine lv_isub hx hb dX5_bitsOf_64 ?_
      refine lv_bipush (v := 23) hx hb dX5_bitsOf_65 (by decide) ?_
      refine lv_ishl hx hb dX5_bitsOf_67 ?_
      refine lv_fload_n hx hb dX5_bitsOf_68 rfl (lv_at hl 1 rfl) ?_
      refine lv_ldcwf (v := 1258291200) hx hb hown (hts _ (List.mem_of_getElem? (i := 1) rfl)) dX5_bitsOf_69 ?_
      refine lv_fmul hx hb dX5_bitsOf_72 (g_nn (nn0_mg (shf hr2 hu2 (bits_end (fsz_nn0 hv hz).1 hu2 hl2 hex hor).2).1) (by decide)) ?_
      refine lv_f2i hx hb dX5_bitsOf_73 ?_
      refine lv_iadd hx hb dX5_bitsOf_74 ?_
      refine W.eq (congrArg (fun z => F0 m 75 ls (.int z :: [])) (show ((((nI ex) - 1) <<< ((23 : Int32) &&& 31)) + (FP.f2i (FP.fmul rr 1258291200)) : Int32) = nI ((fsz v).toNat) from (bo_end (fsz_nn0 hv hz).1 hr2 hu2 hl2 hex hexl hor))) ?_
      refine lv_istore_n (lv' := [(3, .int (nI ((fsz v).toNat))), (0, .float v), (1, .float rr), (2, .int (nI ex))]) hx hb dX5_bitsOf_75 rfl hl (by decide) rfl (fun ls hl => ?_)
      refine lv_fload_n hx hb dX5_bitsOf_76 rfl (lv_at hl 1 rfl) ?_
      refine lv_fconst0 hx hb dX5_bitsOf_77 ?_
      refine lv_fcmp hx hb dX5_bitsOf_78 ?_
      refine lv_if_ge (tgt := 90) hx hb dX5_bitsOf_79 (by decide) (fun c_79 => ?_) (fun c_79 => ?_)
      · skip
        have k_79 := g_cgl c_79
        refine lv_iload_n hx hb dX5_bitsOf_90 rfl (lv_at hl 0 rfl) ?_
        exact g_iret hQ hc hw hr (by exact congrArg (fun z => some (Value.int z)) (congrArg nI (((fsz_nn0 hv hz).2.resolve_right (fun q => Bool.false_ne_true (k_79.symm.trans q.2))).1))) rfl dX5_bitsOf_91
      · skip
        have k_79 := g_cgt c_79
        refine lv_iload_n hx hb dX5_bitsOf_82 rfl (lv_at hl 0 rfl) ?_
        refine lv_ldcw (v := -2147483648) hx hb hown (hts _ (List.mem_of_getElem? (i := 2) rfl)) dX5_bitsOf_83 ?_
        refine lv_ior hx hb dX5_bitsOf_86 ?_
        refine lv_goto (tgt := 91) hx hb dX5_bitsOf_87 (by decide) ?_
        exact g_iret hQ hc hw hr (by exact congrArg (fun z => some (Value.int z)) ((congrArg nI (((fsz_nn0 hv hz).2.resolve_left (fun q => Bool.false_ne_true (q.2.symm.trans k_79))).1)).trans (bo_neg _ (by have := (fsz_nn0 hv hz).1; unfold nn0 at this; omega)).symm)) rfl dX5_bitsOf_91
    refine lv_iconst (v := 0) hx hb dX5_bitsOf_35 (by decide) ?_
    refine lv_istore_n (lv' := [(3, .int 0), (0, .float v), (1, .float r), (2, .int (nI (127 + i)))]) hx hb dX5_bitsOf_36 rfl hl (by decide) rfl (fun ls hl => ?_)
    have J37 : ∀ (k9 : Nat) (j : Nat), j + k9 = 126 → ∀ (rr : UInt32) (ex : Nat), (nn0 rr) → (uv rr < 2 ^ 150) → (uv rr * 2 ^ ex = uv (fsz v) * 2 ^ 127) → (1 ≤ ex) → (ex < 255) → (2 ^ 149 ≤ uv rr ∨ ex + j = 127) → ∀ (H : Heap) (locs : List Loc) (ls : Array Slot), g_W D A s [] H locs → lv_has ls 4 [(0, .float v), (1, .float rr), (2, .int (nI ex)), (3, .int (nI j))] → W p l e R s m args below meth c H locs 0 0 Q (F0 m 37 ls []) := by
      intro k9
      induction k9 with
      | zero =>
        intro j h9 rr ex hr2 hu2 hl2 hex hexl hor2 H locs ls hw hl
        have h9 : j = 126 := h9
        subst h9
        refine lv_iload_n hx hb dX5_bitsOf_37 rfl (lv_at hl 3 rfl) ?_
        refine lv_bipush (v := 126) hx hb dX5_bitsOf_38 (by decide) ?_
        refine lv_icmp_ge (tgt := 62) hx hb dX5_bitsOf_40 (by decide) (fun c_40 => ?_) (fun c_40 => absurd (by first | exact Int32.le_refl _ | decide) c_40)
        exact J62 rr ex hr2 hu2 hl2 (by omega) (by omega) (hor2.imp id (fun q => by omega)) _ _ _ hw (lv_sub hl [0, 1, 2] rfl)
      | succ k9 ih =>
        intro j h9 rr ex hr2 hu2 hl2 hex hexl hor2 H locs ls hw hl
        have h9b : j < 126 := by omega
        refine lv_iload_n hx hb dX5_bitsOf_37 rfl (lv_at hl 3 rfl) ?_
        refine lv_bipush (v := 126) hx hb dX5_bitsOf_38 (by decide) ?_
        refine lv_icmp_ge (tgt := 62) hx hb dX5_bitsOf_40 (by decide) (fun c_40 => absurd c_40 (nI_ge h9b (by decide))) (fun c_40 => ?_)
        refine lv_fload_n hx hb dX5_bitsOf_43 rfl (lv_at hl 1 rfl) ?_
        refine lv_fconst1 hx hb dX5_bitsOf_44 ?_
        refine lv_fcmp hx hb dX5_bitsOf_45 ?_
        refine lv_if_ge (tgt := 62) hx hb dX5_bitsOf_46 (by decide) (fun c_46 => ?_) (fun c_46 => ?_)
        · skip
          have k_46 := g_cgl c_46
          exact J62 rr ex hr2 hu2 hl2 (by omega) (by omega) (Or.inl (by have := flt_uvF hr2 nn_c1 k_46; rw [uv_c1] at this; exact this)) _ _ _ hw (lv_sub hl [0, 1, 2] rfl)
        · skip
          have k_46 := g_cgt c_46
          have h46l : uv rr < 2 ^ 149 := by have := flt_uv hr2 nn_c1 k_46; rw [uv_c1] at this; exact this
          have hexj : ex + j = 127 := hor2.resolve_left (Nat.not_le.mpr h46l)
          have h46 := bo_d (x := fsz v) (ex := ex - 1) hr2 (by rw [show ex - 1 + 1 = ex by omega]; exact hl2) h46l
          refine lv_fload_n hx hb dX5_bitsOf_49 rfl (lv_at hl 1 rfl) ?_
          refine lv_fconst2 hx hb dX5_bitsOf_50 ?_
          refine lv_fmul hx hb dX5_bitsOf_51 (g_nn (nn0_mg h46.1) (by decide)) ?_
          refine lv_fstore_n (lv' := [(1, .float (FP.fmul rr FP.fconst2)), (0, .float v), (2, .int (nI ex)), (3, .int (nI j))]) hx hb dX5_bitsOf_52 rfl hl (by decide) rfl (fun ls hl => ?_)
          refine lv_iinc (v := (nI ex) + (-1)) (lv' := [(2, .int ((nI ex) + (-1))), (1, .float (FP.fmul rr FP.fconst2)), (0, .float v), (3, .int (nI j))]) hx hb dX5_bitsOf_53 hl (k := 2) rfl rfl (by decide) rfl (fun ls hl => ?_)
          refine lv_iinc (v := nI (j + 1)) (lv' := [(3, .int (nI (j + 1))), (2, .int ((nI ex) + (-1))), (1, .float (FP.fmul rr FP.fconst2)), (0, .float v)]) hx hb dX5_bitsOf_56 hl (k := 3) rfl (n_inc1 rfl) (by decide) rfl (fun ls hl => ?_)
          refine lv_goto (tgt := 37) hx hb dX5_bitsOf_59 (by decide) ?_
          have hl := lv_conv hl 1 rfl (v' := (.int (nI (ex - 1)))) (by exact congrArg Value.int (sb_m1 (by omega)))
          have hl : lv_has ls 4 [(3, .int (nI (j + 1))), (2, .int (nI (ex - 1))), (1, .float (FP.fmul rr FP.fconst2)), (0, .float v)] := hl
          exact ih (j + 1) (by omega) (FP.fmul rr FP.fconst2) (ex - 1) h46.1 h46.2.2 h46.2.1 (by omega) (by omega) (Or.inr (by omega)) _ _ _ hw (lv_sub hl [3, 2, 1, 0] rfl)
    exact J37 126 0 (by omega) r (127 + i) hr1 hu (bo_rel0 hrel) (by omega) (by omega) (hg.elim (fun q => Or.inr (by omega)) Or.inl) _ _ _ hw (lv_sub hl [1, 2, 3, 0] rfl)
  refine lv_iconst (v := 0) hx hb dX5_bitsOf_8 (by decide) ?_
  refine lv_istore_n (lv' := [(3, .int 0), (2, .int 127), (1, .float (fsz v)), (0, .float v)]) hx hb dX5_bitsOf_9 rfl hl (by decide) rfl (fun ls hl => ?_)
  have J10 : ∀ (k9 : Nat) (i : Nat), i + k9 = 127 → ∀ (r : UInt32), (nn0 r) → (uv r * 2 ^ i = uv (fsz v)) → (i = 0 ∨ 2 ^ 149 ≤ uv r) → ∀ (H : Heap) (locs : List Loc) (ls : Array Slot), g_W D A s [] H locs → lv_has ls 4 [(0, .float v), (1, .float r), (2, .int (nI (127 + i))), (3, .int (nI i))] → W p l e R s m args below meth c H locs 0 0 Q (F0 m 10 ls []) := by
    intro k9
    induction k9 with
    | zero =>
      intro i h9 r hr1 hrel hg H locs ls hw hl
      have h9 : i = 127 := h9
      subst h9
      refine lv_iload_n hx hb dX5_bitsOf_10 rfl (lv_at hl 3 rfl) ?_
      refine lv_bipush (v := 127) hx hb dX5_bitsOf_11 (by decide) ?_
      refine lv_icmp_ge (tgt := 35) hx hb dX5_bitsOf_13 (by decide) (fun c_13 => ?_) (fun c_13 => absurd (by first | exact Int32.le_refl _ | decide) c_13)
      exact J35 r 127 hr1 hrel (bo_dn (fsz_nn0 hv hz).1 hr1 hrel rfl) hg (by omega) _ _ _ hw (lv_sub hl [0, 1, 2] rfl)
    | succ k9 ih =>
      intro i h9 r hr1 hrel hg H locs ls hw hl
      have h9b : i < 127 := by omega
      refine lv_iload_n hx hb dX5_bitsOf_10 rfl (lv_at hl 3 rfl) ?_
      refine lv_bipush (v := 127) hx hb dX5_bitsOf_11 (by decide) ?_
      refine lv_icmp_ge (tgt := 35) hx hb dX5_bitsOf_13 (by decide) (fun c_13 => absurd c_13 (nI_ge h9b (by decide))) (fun c_13 => ?_)
      refine lv_fload_n hx hb dX5_bitsOf_16 rfl (lv_at hl 1 rfl) ?_
      refine lv_fconst2 hx hb dX5_bitsOf_17 ?_
      refine lv_fcmp hx hb dX5_bitsOf_18 ?_
      refine lv_if_lt (tgt := 35) hx hb dX5_bitsOf_19 (by decide) (fun c_19 => ?_) (fun c_19 => ?_)
      · skip
        exact J35 r i hr1 hrel (by have := (lt_uv hr1 nn_c2).mp (g_lvT c_19 hr1 nn_c2); rw [uv_c2] at this; exact this) hg (by omega) _ _ _ hw (lv_sub hl [0, 1, 2] rfl)
      · skip
        have h19g : 2 ^ 150 ≤ uv r := by have := Nat.not_lt.mp (fun q => g_lvF c_19 ((lt_uv hr1 nn_c2).mpr q)); rw [uv_c2] at this; exact this
        have h19 := bo_h hr1 hrel h19g
        refine lv_fload_n hx hb dX5_bitsOf_22 rfl (lv_at hl 1 rfl) ?_
        refine lv_fconst2 hx hb dX5_bitsOf_23 ?_
        refine lv_fdiv hx hb dX5_bitsOf_24 (g_nn (nn0_mg h19.1) (by decide)) ?_
        refine lv_fstore_n (lv' := [(1, .float (FP.fdiv r FP.fconst2)), (0, .float v), (2, .int (nI (127 + i))), (3, .int (nI i))]) hx hb dX5_bitsOf_25 rfl hl (by decide) rfl (fun ls hl => ?_)
        refine lv_iinc (v := nI ((127 + i) + 1)) (lv' := [(2, .int (nI ((127 + i) + 1))), (1, .float (FP.fdiv r FP.fconst2)), (0, .float v), (3, .int (nI i))]) hx hb dX5_bitsOf_26 hl (k := 2) rfl (n_inc1 rfl) (by decide) rfl (fun ls hl => ?_)
        refine lv_iinc (v := nI (i + 1)) (lv' := [(3, .int (nI (i + 1))), (2, .int (nI ((127 + i) + 1))), (1, .float (FP.fdiv r FP.fconst2)), (0, .float v)]) hx hb dX5_bitsOf_29 hl (k := 3) rfl (n_inc1 rfl) (by decide) rfl (fun ls hl => ?_)
        refine lv_goto (tgt := 10) hx hb dX5_bitsOf_32 (by decide) ?_
        exact ih (i + 1) (by omega) (FP.fdiv r FP.fconst2) h19.1 h19.2.1 (Or.inr h19.2.2) _ _ _ hw (lv_sub hl [3, 2, 1, 0] rfl)
  exact J10 127 0 (by omega) (fsz v) ((fsz_nn0 hv hz).1) (by rw [Nat.pow_zero, Nat.mul_one]) (Or.inl rfl) _ _ _ hw (lv_sub hl [3, 2, 1, 0] rfl)
end P15
