section P20
theorem dX6_in_0 : decode cX6_in 0 = .ok (.lload_n 0, 1) := by decide +kernel
theorem dX6_in_1 : decode cX6_in 1 = .ok (.lload_n 2, 1) := by decide +kernel
theorem dX6_in_2 : decode cX6_in 2 = .ok (.lcmp, 1) := by decide +kernel
theorem dX6_in_3 : decode cX6_in 3 = .ok (.ifCond .lt 14, 3) := by decide +kernel
theorem dX6_in_6 : decode cX6_in 6 = .ok (.lload_n 0, 1) := by decide +kernel
theorem dX6_in_7 : decode cX6_in 7 = .ok (.lload 4, 2) := by decide +kernel
theorem dX6_in_9 : decode cX6_in 9 = .ok (.lcmp, 1) := by decide +kernel
theorem dX6_in_10 : decode cX6_in 10 = .ok (.ifCond .gt 7, 3) := by decide +kernel
theorem dX6_in_13 : decode cX6_in 13 = .ok (.iconst 1, 1) := by decide +kernel
theorem dX6_in_14 : decode cX6_in 14 = .ok (.goto 4, 3) := by decide +kernel
theorem dX6_in_17 : decode cX6_in 17 = .ok (.iconst 0, 1) := by decide +kernel
theorem dX6_in_18 : decode cX6_in 18 = .ok (.ireturn, 1) := by decide +kernel
set_option maxRecDepth 100000 in
set_option maxHeartbeats 4000000 in
theorem m_X6_in {l : Launch} {D : va_G} {E : Nat → ClassId} {T : Nat → Nat} (v : Int64) (a : Int64) (b : Int64)  : g_M l D E T yX6_in wsX6_in 0 0 [.long v, .long a, .long b] [] [] (some (.int (b2i (inL v a b)))) := by
  refine g_M.of (cc := cX6_in) (nL := 6) (ret := (some .boolean)) (own := RX6) (lv := [(0, .long v), (2, .long a), (4, .long b)]) (by decide) rfl rfl (Nat.le_of_ble_eq_true rfl) rfl ?_
  intro p e R s m args below meth c A Q H locs ls hR hQ hc hr hw hl
  have hx := hc.1
  have hb := hc.2.1
  have hts := hc.2.2.2.1
  have hown := hc.2.2.2.2.1
  refine lv_lload_n hx hb dX6_in_0 rfl (lv_at hl 0 rfl) ?_
  refine lv_lload_n hx hb dX6_in_1 rfl (lv_at hl 1 rfl) ?_
  refine W.lcmp hx hb dX6_in_2 ?_
  refine lv_if_lt (tgt := 17) hx hb dX6_in_3 (by decide) (fun c_3 => ?_) (fun c_3 => ?_)
  · skip
    refine lv_iconst (v := 0) hx hb dX6_in_17 (by decide) ?_
    exact g_zret hQ hc hw hr (by exact congrArg (fun z => some (Value.int z)) (in_F1 c_3)) (by first | rfl | (split <;> rfl) | exact g_nb _) rfl dX6_in_18
  · skip
    refine lv_lload_n hx hb dX6_in_6 rfl (lv_at hl 0 rfl) ?_
    refine lv_lload hx hb dX6_in_7 (lv_at hl 2 rfl) ?_
    refine W.lcmp hx hb dX6_in_9 ?_
    refine lv_if_gt (tgt := 17) hx hb dX6_in_10 (by decide) (fun c_10 => ?_) (fun c_10 => ?_)
    · skip
      refine lv_iconst (v := 0) hx hb dX6_in_17 (by decide) ?_
      exact g_zret hQ hc hw hr (by exact congrArg (fun z => some (Value.int z)) (in_F2 c_10)) (by first | rfl | (split <;> rfl) | exact g_nb _) rfl dX6_in_18
    · skip
      refine lv_iconst (v := 1) hx hb dX6_in_13 (by decide) ?_
      refine lv_goto (tgt := 18) hx hb dX6_in_14 (by decide) ?_
      exact g_zret hQ hc hw hr (by exact congrArg (fun z => some (Value.int z)) (in_T c_3 c_10)) (by first | rfl | (split <;> rfl) | exact g_nb _) rfl dX6_in_18

theorem dX6_has_0 : decode cX6_has 0 = .ok (.iload_n 0, 1) := by decide +kernel
theorem dX6_has_1 : decode cX6_has 1 = .ok (.iload_n 1, 1) := by decide +kernel
theorem dX6_has_2 : decode cX6_has 2 = .ok (.ishr, 1) := by decide +kernel
theorem dX6_has_3 : decode cX6_has 3 = .ok (.iconst 1, 1) := by decide +kernel
theorem dX6_has_4 : decode cX6_has 4 = .ok (.iand, 1) := by decide +kernel
theorem dX6_has_5 : decode cX6_has 5 = .ok (.iconst 1, 1) := by decide +kernel
theorem dX6_has_6 : decode cX6_has 6 = .ok (.if_icmp .ne 7, 3) := by decide +kernel
theorem dX6_has_9 : decode cX6_has 9 = .ok (.iconst 1, 1) := by decide +kernel
theorem dX6_has_10 : decode cX6_has 10 = .ok (.goto 4, 3) := by decide +kernel
theorem dX6_has_13 : decode cX6_has 13 = .ok (.iconst 0, 1) := by decide +kernel
theorem dX6_has_14 : decode cX6_has 14 = .ok (.ireturn, 1) := by decide +kernel
set_option maxRecDepth 100000 in
set_option maxHeartbeats 4000000 in
theorem m_X6_has {l : Launch} {D : va_G} {E : Nat → ClassId} {T : Nat → Nat} (d : Nat) (i : Nat) (hd : d < 16) (hi : i < 4) : g_M l D E T yX6_has wsX6_has 0 0 [.int (nI d), .int (nI i)] [] [] (some (.int (b2i (d.testBit i)))) := by
  refine g_M.of (cc := cX6_has) (nL := 2) (ret := (some .boolean)) (own := RX6) (lv := [(0, .int (nI d)), (1, .int (nI i))]) (by decide) rfl rfl (Nat.le_of_ble_eq_true rfl) rfl ?_
  intro p e R s m args below meth c A Q H locs ls hR hQ hc hr hw hl
  have hx := hc.1
  have hb := hc.2.1
  have hts := hc.2.2.2.1
  have hown := hc.2.2.2.2.1
  refine lv_iload_n hx hb dX6_has_0 rfl (lv_at hl 0 rfl) ?_
  refine lv_iload_n hx hb dX6_has_1 rfl (lv_at hl 1 rfl) ?_
  refine lv_ishr hx hb dX6_has_2 ?_
  refine lv_iconst (v := 1) hx hb dX6_has_3 (by decide) ?_
  refine lv_iand hx hb dX6_has_4 ?_
  refine lv_iconst (v := 1) hx hb dX6_has_5 (by decide) ?_
  refine lv_icmp_ne (tgt := 13) hx hb dX6_has_6 (by decide) (fun c_6 => ?_) (fun c_6 => ?_)
  · skip
    refine lv_iconst (v := 0) hx hb dX6_has_13 (by decide) ?_
    exact g_zret hQ hc hw hr (by exact congrArg (fun z => some (Value.int z)) (has_F hd hi c_6)) (by first | rfl | (split <;> rfl) | exact g_nb _) rfl dX6_has_14
  · skip
    refine lv_iconst (v := 1) hx hb dX6_has_9 (by decide) ?_
    refine lv_goto (tgt := 14) hx hb dX6_has_10 (by decide) ?_
    exact g_zret hQ hc hw hr (by exact congrArg (fun z => some (Value.int z)) (has_T hd hi c_6)) (by first | rfl | (split <;> rfl) | exact g_nb _) rfl dX6_has_14

theorem dX6_ones_0 : decode cX6_ones 0 = .ok (.iconst 0, 1) := by decide +kernel
theorem dX6_ones_1 : decode cX6_ones 1 = .ok (.istore_n 1, 1) := by decide +kernel
theorem dX6_ones_2 : decode cX6_ones 2 = .ok (.iconst 0, 1) := by decide +kernel
theorem dX6_ones_3 : decode cX6_ones 3 = .ok (.istore_n 2, 1) := by decide +kernel
theorem dX6_ones_4 : decode cX6_ones 4 = .ok (.iload_n 2, 1) := by decide +kernel
theorem dX6_ones_5 : decode cX6_ones 5 = .ok (.iconst 4, 1) := by decide +kernel
theorem dX6_ones_6 : decode cX6_ones 6 = .ok (.if_icmp .ge 17, 3) := by decide +kernel
theorem dX6_ones_9 : decode cX6_ones 9 = .ok (.iload_n 1, 1) := by decide +kernel
theorem dX6_ones_10 : decode cX6_ones 10 = .ok (.iload_n 0, 1) := by decide +kernel
theorem dX6_ones_11 : decode cX6_ones 11 = .ok (.iload_n 2, 1) := by decide +kernel
theorem dX6_ones_12 : decode cX6_ones 12 = .ok (.ishr, 1) := by decide +kernel
theorem dX6_ones_13 : decode cX6_ones 13 = .ok (.iconst 1, 1) := by decide +kernel
theorem dX6_ones_14 : decode cX6_ones 14 = .ok (.iand, 1) := by decide +kernel
theorem dX6_ones_15 : decode cX6_ones 15 = .ok (.iadd, 1) := by decide +kernel
theorem dX6_ones_16 : decode cX6_ones 16 = .ok (.istore_n 1, 1) := by decide +kernel
theorem dX6_ones_17 : decode cX6_ones 17 = .ok (.iinc 2 1, 3) := by decide +kernel
theorem dX6_ones_20 : decode cX6_ones 20 = .ok (.goto (-16), 3) := by decide +kernel
theorem dX6_ones_23 : decode cX6_ones 23 = .ok (.iload_n 1, 1) := by decide +kernel
theorem dX6_ones_24 : decode cX6_ones 24 = .ok (.ireturn, 1) := by decide +kernel
set_option maxRecDepth 100000 in
set_option maxHeartbeats 4000000 in
theorem m_X6_ones {l : Launch} {D : va_G} {E : Nat → ClassId} {T : Nat → Nat} (d : Nat) (hd : d < 16) : g_M l D E T yX6_ones wsX6_ones 0 0 [.int (nI d)] [] [] (some (.int (nI (pcn d)))) := by
  refine g_M.of (cc := cX6_ones) (nL := 3) (ret := (some .int)) (own := RX6) (lv := [(0, .int (nI d))]) (by decide) rfl rfl (Nat.le_of_ble_eq_true rfl) rfl ?_
  intro p e R s m args below meth c A Q H locs ls hR hQ hc hr hw hl
  have hx := hc.1
  have hb := hc.2.1
  have hts := hc.2.2.2.1
  have hown := hc.2.2.2.2.1
  refine lv_iconst (v := 0) hx hb dX6_ones_0 (by decide) ?_
  refine lv_istore_n (lv' := [(1, .int 0), (0, .int (nI d))]) hx hb dX6_ones_1 rfl hl (by decide) rfl (fun ls hl => ?_)
  refine lv_iconst (v := 0) hx hb dX6_ones_2 (by decide) ?_
  refine lv_istore_n (lv' := [(2, .int 0), (1, .int 0), (0, .int (nI d))]) hx hb dX6_ones_3 rfl hl (by decide) rfl (fun ls hl => ?_)
  refine lv_iload_n hx hb dX6_ones_4 rfl (lv_at hl 0 rfl) ?_
  refine lv_iconst (v := 4) hx hb dX6_ones_5 (by decide) ?_
  refine lv_icmp_ge (tgt := 23) hx hb dX6_ones_6 (by decide) (fun c_6 => absurd c_6 (by decide)) (fun c_6 => ?_)
  refine lv_iload_n hx hb dX6_ones_9 rfl (lv_at hl 1 rfl) ?_
  refine lv_iload_n hx hb dX6_ones_10 rfl (lv_at hl 2 rfl) ?_
  refine lv_iload_n hx hb dX6_ones_11 rfl (lv_at hl 0 rfl) ?_
  refine lv_ishr hx hb dX6_ones_12 ?_
  refine lv_iconst (v := 1) hx hb dX6_ones_13 (by decide) ?_
  refine lv_iand hx hb dX6_ones_14 ?_
  refine lv_iadd hx hb dX6_ones_15 ?_
  refine lv_istore_n (lv' := [(1, .int (0 + (((nI d) >>> ((0 : Int32) &&& 31)) &&& 1))), (2, .int 0), (0, .int (nI d))]) hx hb dX6_ones_16 rfl hl (by decide) rfl (fun ls hl => ?_)
  refine lv_iinc (v := 1) (lv' := [(2, .int 1), (1, .int (0 + (((nI d) >>> ((0 : Int32) &&& 31)) &&& 1))), (0, .int (nI d))]) hx hb dX6_ones_17 hl (k := 1) rfl (by decide) (by decide) rfl (fun ls hl => ?_)
  refine lv_goto (tgt := 4) hx hb dX6_ones_20 (by decide) ?_
  refine lv_iload_n hx hb dX6_ones_4 rfl (lv_at hl 0 rfl) ?_
  refine lv_iconst (v := 4) hx hb dX6_ones_5 (by decide) ?_
  refine lv_icmp_ge (tgt := 23) hx hb dX6_ones_6 (by decide) (fun c_6 => absurd c_6 (by decide)) (fun c_6 => ?_)
  refine lv_iload_n hx hb dX6_ones_9 rfl (lv_at hl 1 rfl) ?_
  refine lv_iload_n hx hb dX6_ones_10 rfl (lv_at hl 2 rfl) ?_
  refine lv_iload_n hx hb dX6_ones_11 rfl (lv_at hl 0 rfl) ?_
  refine lv_ishr hx hb dX6_ones_12 ?_
  refine lv_iconst (v := 1) hx hb dX6_ones_13 (by decide) ?_
  refine lv_iand hx hb dX6_ones_14 ?_
  refine lv_iadd hx hb dX6_ones_15 ?_
  refine lv_istore_n (lv' := [(1, .int ((0 + (((nI d) >>> ((0 : Int32) &&& 31)) &&& 1)) + (((nI d) >>> ((1 : Int32) &&& 31)) &&& 1))), (2, .int 1), (0, .int (nI d))]) hx hb dX6_ones_16 rfl hl (by decide) rfl (fun ls hl => ?_)
  refine lv_iinc (v := 2) (lv' := [(2, .int 2), (1, .int ((0 + (((nI d) >>> ((0 : Int32) &&& 31)) &&& 1)) + (((nI d) >>> ((1 : Int32) &&& 31)) &&& 1))), (0, .int (nI d))]) hx hb dX6_ones_17 hl (k := 1) rfl (by decide) (by decide) rfl (fun ls hl => ?_)
  refine lv_goto (tgt := 4) hx hb dX6_ones_20 (by decide) ?_
  refine lv_iload_n hx hb dX6_ones_4 rfl (lv_at hl 0 rfl) ?_
  refine lv_iconst (v := 4) hx hb dX6_ones_5 (by decide) ?_
  refine lv_icmp_ge (tgt := 23) hx hb dX6_ones_6 (by decide) (fun c_6 => absurd c_6 (by decide)) (fun c_6 => ?_)
  refine lv_iload_n hx hb dX6_ones_9 rfl (lv_at hl 1 rfl) ?_
  refine lv_iload_n hx hb dX6_ones_10 rfl (lv_at hl 2 rfl) ?_
  refine lv_iload_n hx hb dX6_ones_11 rfl (lv_at hl 0 rfl) ?_
  refine lv_ishr hx hb dX6_ones_12 ?_
  refine lv_iconst (v := 1) hx hb dX6_ones_13 (by decide) ?_
  refine lv_iand hx hb dX6_ones_14 ?_
  refine lv_iadd hx hb dX6_ones_15 ?_
  refine lv_istore_n (lv' := [(1, .int (((0 + (((nI d) >>> ((0 : Int32) &&& 31)) &&& 1)) + (((nI d) >>> ((1 : Int32) &&& 31)) &&& 1)) + (((nI d) >>> ((2 : Int32) &&& 31)) &&& 1))), (2, .int 2), (0, .int (nI d))]) hx hb dX6_ones_16 rfl hl (by decide) rfl (fun ls hl => ?_)
  refine lv_iinc (v := 3) (lv' := [(2, .int 3), (1, .int (((0 + (((nI d) >>> ((0 : Int32) &&& 31)) &&& 1)) + (((nI d) >>> ((1 : Int32) &&& 31)) &&& 1)) + (((nI d) >>> ((2 : Int32) &&& 31)) &&& 1))), (0, .int (nI d))]) hx hb dX6_ones_17 hl (k := 1) rfl (by decide) (by decide) rfl (fun ls hl => ?_)
  refine lv_goto (tgt := 4) hx hb dX6_ones_20 (by decide) ?_
  refine lv_iload_n hx hb dX6_ones_4 rfl (lv_at hl 0 rfl) ?_
  refine lv_iconst (v := 4) hx hb dX6_ones_5 (by decide) ?_
  refine lv_icmp_ge (tgt := 23) hx hb dX6_ones_6 (by decide) (fun c_6 => absurd c_6 (by decide)) (fun c_6 => ?_)
  refine lv_iload_n hx hb dX6_ones_9 rfl (lv_at hl 1 rfl) ?_
  refine lv_iload_n hx hb dX6_ones_10 rfl (lv_at hl 2 rfl) ?_
  refine lv_iload_n hx hb dX6_ones_11 rfl (lv_at hl 0 rfl) ?_
  refine lv_ishr hx hb dX6_ones_12 ?_
  refine lv_iconst (v := 1) hx hb dX6_ones_13 (by decide) ?_
  refine lv_iand hx hb dX6_ones_14 ?_
  refine lv_iadd hx hb dX6_ones_15 ?_
  refine lv_istore_n (lv' := [(1, .int ((((0 + (((nI d) >>> ((0 : Int32) &&& 31)) &&& 1)) + (((nI d) >>> ((1 : Int32) &&& 31)) &&& 1)) + (((nI d) >>> ((2 : Int32) &&& 31)) &&& 1)) + (((nI d) >>> ((3 : Int32) &&& 31)) &&& 1))), (2, .int 3), (0, .int (nI d))]) hx hb dX6_ones_16 rfl hl (by decide) rfl (fun ls hl => ?_)
  refine lv_iinc (v := 4) (lv' := [(2, .int 4), (1, .int ((((0 + (((nI d) >>> ((0 : Int32) &&& 31)) &&& 1)) + (((nI d) >>> ((1 : Int32) &&& 31)) &&& 1)) + (((nI d) >>> ((2 : Int32) &&& 31)) &&& 1)) + (((nI d) >>> ((3 : Int32) &&& 31)) &&& 1))), (0, .int (nI d))]) hx hb dX6_ones_17 hl (k := 1) rfl (by decide) (by decide) rfl (fun ls hl => ?_)
  refine lv_goto (tgt := 4) hx hb dX6_ones_20 (by decide) ?_
  refine lv_iload_n hx hb dX6_ones_4 rfl (lv_at hl 0 rfl) ?_
  refine lv_iconst (v := 4) hx hb dX6_ones_5 (by decide) ?_
  refine lv_icmp_ge (tgt := 23) hx hb dX6_ones_6 (by decide) (fun c_6 => ?_) (fun c_6 => absurd c_6 (by decide))
  refine lv_iload_n hx hb dX6_ones_23 rfl (lv_at hl 1 rfl) ?_
  exact g_iret hQ hc hw hr (by exact congrArg (fun z => some (Value.int z)) ((show ∀ d, d < 16 → nI (pcn d) = (((0 + (((nI d) >>> ((0 : Int32) &&& 31)) &&& 1)) + (((nI d) >>> ((1 : Int32) &&& 31)) &&& 1)) + (((nI d) >>> ((2 : Int32) &&& 31)) &&& 1)) + (((nI d) >>> ((3 : Int32) &&& 31)) &&& 1) by decide +kernel) d hd)) rfl dX6_ones_24

theorem dX6_power_0 : decode cX6_power 0 = .ok (.iconst 1, 1) := by decide +kernel
theorem dX6_power_1 : decode cX6_power 1 = .ok (.istore_n 2, 1) := by decide +kernel
theorem dX6_power_2 : decode cX6_power 2 = .ok (.iconst 0, 1) := by decide +kernel
theorem dX6_power_3 : decode cX6_power 3 = .ok (.istore_n 3, 1) := by decide +kernel
theorem dX6_power_4 : decode cX6_power 4 = .ok (.iload_n 3, 1) := by decide +kernel
theorem dX6_power_5 : decode cX6_power 5 = .ok (.iload_n 1, 1) := by decide +kernel
theorem dX6_power_6 : decode cX6_power 6 = .ok (.if_icmp .ge 13, 3) := by decide +kernel
theorem dX6_power_9 : decode cX6_power 9 = .ok (.iload_n 2, 1) := by decide +kernel
theorem dX6_power_10 : decode cX6_power 10 = .ok (.iload_n 0, 1) := by decide +kernel
theorem dX6_power_11 : decode cX6_power 11 = .ok (.imul, 1) := by decide +kernel
theorem dX6_power_12 : decode cX6_power 12 = .ok (.istore_n 2, 1) := by decide +kernel
theorem dX6_power_13 : decode cX6_power 13 = .ok (.iinc 3 1, 3) := by decide +kernel
theorem dX6_power_16 : decode cX6_power 16 = .ok (.goto (-12), 3) := by decide +kernel
theorem dX6_power_19 : decode cX6_power 19 = .ok (.iload_n 2, 1) := by decide +kernel
theorem dX6_power_20 : decode cX6_power 20 = .ok (.ireturn, 1) := by decide +kernel
set_option maxRecDepth 100000 in
set_option maxHeartbeats 4000000 in
theorem m_X6_power {l : Launch} {D : va_G} {E : Nat → ClassId} {T : Nat → Nat} (a : Int32) (n : Nat) (hn : n < 100) : g_M l D E T yX6_power wsX6_power 0 0 [.int a, .int (nI n)] [] [] (some (.int (pwF a n))) := by
  refine g_M.of (cc := cX6_power) (nL := 4) (ret := (some .int)) (own := RX6) (lv := [(0, .int a), (1, .int (nI n))]) (by decide) rfl rfl (Nat.le_of_ble_eq_true rfl) rfl ?_
  intro p e R s m args below meth c A Q H locs ls hR hQ hc hr hw hl
  have hx := hc.1
  have hb := hc.2.1
  have hts := hc.2.2.2.1
  have hown := hc.2.2.2.2.1
  refine lv_iconst (v := 1) hx hb dX6_power_0 (by decide) ?_
  refine lv_istore_n (lv' := [(2, .int 1), (0, .int a), (1, .int (nI n))]) hx hb dX6_power_1 rfl hl (by decide) rfl (fun ls hl => ?_)
  refine lv_iconst (v := 0) hx hb dX6_power_2 (by decide) ?_
  refine lv_istore_n (lv' := [(3, .int 0), (2, .int 1), (0, .int a), (1, .int (nI n))]) hx hb dX6_power_3 rfl hl (by decide) rfl (fun ls hl => ?_)
  have J4 : ∀ (k9 : Nat) (i : Nat), i + k9 = n → ∀ (H : Heap) (locs : List Loc) (ls : Array Slot), g_W D A s [] H locs → lv_has ls 4 [(0, .int a), (1, .int (nI n)), (2, .int (pwF a i)), (3, .int (nI i))] → W p l e R s m args below meth c H locs 0 0 Q (F0 m 4 ls []) := by
    intro k9
    induction k9 with
    | zero =>
      intro i h9   H locs ls hw hl
      have h9 : n = i := Eq.symm h9
      subst h9
      refine lv_iload_n hx hb dX6_power_4 rfl (lv_at hl 3 rfl) ?_
      refine lv_iload_n hx hb dX6_power_5 rfl (lv_at hl 1 rfl) ?_
      refine lv_icmp_ge (tgt := 19) hx hb dX6_power_6 (by decide) (fun c_6 => ?_) (fun c_6 => absurd (by first | exact Int32.le_refl _ | decide) c_6)
      refine lv_iload_n hx hb dX6_power_19 rfl (lv_at hl 2 rfl) ?_
      exact g_iret hQ hc hw hr rfl rfl dX6_power_20
    | succ k9 ih =>
      intro i h9   H locs ls hw hl
      have h9b : i < n := by omega
      refine lv_iload_n hx hb dX6_power_4 rfl (lv_at hl 3 rfl) ?_
      refine lv_iload_n hx hb dX6_power_5 rfl (lv_at hl 1 rfl) ?_
      refine lv_icmp_ge (tgt := 19) hx hb dX6_power_6 (by decide) (fun c_6 => absurd c_6 (nI_ge h9b (by omega))) (fun c_6 => ?_)
      refine lv_iload_n hx hb dX6_power_9 rfl (lv_at hl 2 rfl) ?_
      refine lv_iload_n hx hb dX6_power_10 rfl (lv_at hl 0 rfl) ?_
      refine lv_imul hx hb dX6_power_11 ?_
      refine lv_istore_n (lv' := [(2, .int ((pwF a i) * a)), (0, .int a), (1, .int (nI n)), (3, .int (nI i))]) hx hb dX6_power_12 rfl hl (by decide) rfl (fun ls hl => ?_)
      refine lv_iinc (v := nI (i + 1)) (lv' := [(3, .int (nI (i + 1))), (2, .int ((pwF a i) * a)), (0, .int a), (1, .int (nI n))]) hx hb dX6_power_13 hl (k := 3) rfl (n_inc1 rfl) (by decide) rfl (fun ls hl => ?_)
      refine lv_goto (tgt := 4) hx hb dX6_power_16 (by decide) ?_
      exact ih (i + 1) (by omega)   _ _ _ hw (lv_sub hl [2, 3, 1, 0] rfl)
  exact J4 n 0 (by omega)   _ _ _ hw (lv_sub hl [2, 3, 1, 0] rfl)

theorem dX6_begin_0 : decode cX6_begin 0 = .ok (.iconst 0, 1) := by decide +kernel
theorem dX6_begin_1 : decode cX6_begin 1 = .ok (.istore_n 1, 1) := by decide +kernel
theorem dX6_begin_2 : decode cX6_begin 2 = .ok (.iload_n 1, 1) := by decide +kernel
theorem dX6_begin_3 : decode cX6_begin 3 = .ok (.bipush 29, 2) := by decide +kernel
theorem dX6_begin_5 : decode cX6_begin 5 = .ok (.if_icmp .ge 13, 3) := by decide +kernel
theorem dX6_begin_8 : decode cX6_begin 8 = .ok (.aload_n 0, 1) := by decide +kernel
theorem dX6_begin_9 : decode cX6_begin 9 = .ok (.iload_n 1, 1) := by decide +kernel
theorem dX6_begin_10 : decode cX6_begin 10 = .ok (.iconst 0, 1) := by decide +kernel
theorem dX6_begin_11 : decode cX6_begin 11 = .ok (.iastore, 1) := by decide +kernel
theorem dX6_begin_12 : decode cX6_begin 12 = .ok (.iinc 1 1, 3) := by decide +kernel
theorem dX6_begin_15 : decode cX6_begin 15 = .ok (.goto (-13), 3) := by decide +kernel
theorem dX6_begin_18 : decode cX6_begin 18 = .ok (.aload_n 0, 1) := by decide +kernel
theorem dX6_begin_19 : decode cX6_begin 19 = .ok (.bipush 7, 2) := by decide +kernel
theorem dX6_begin_21 : decode cX6_begin 21 = .ok (.bipush 50, 2) := by decide +kernel
theorem dX6_begin_23 : decode cX6_begin 23 = .ok (.iastore, 1) := by decide +kernel
theorem dX6_begin_24 : decode cX6_begin 24 = .ok (.aload_n 0, 1) := by decide +kernel
theorem dX6_begin_25 : decode cX6_begin 25 = .ok (.bipush 8, 2) := by decide +kernel
theorem dX6_begin_27 : decode cX6_begin 27 = .ok (.iconst 1, 1) := by decide +kernel
theorem dX6_begin_28 : decode cX6_begin 28 = .ok (.iastore, 1) := by decide +kernel
theorem dX6_begin_29 : decode cX6_begin 29 = .ok (.aload_n 0, 1) := by decide +kernel
theorem dX6_begin_30 : decode cX6_begin 30 = .ok (.bipush 9, 2) := by decide +kernel
theorem dX6_begin_32 : decode cX6_begin 32 = .ok (.iconst 1, 1) := by decide +kernel
theorem dX6_begin_33 : decode cX6_begin 33 = .ok (.iastore, 1) := by decide +kernel
theorem dX6_begin_34 : decode cX6_begin 34 = .ok (.aload_n 0, 1) := by decide +kernel
theorem dX6_begin_35 : decode cX6_begin 35 = .ok (.bipush 10, 2) := by decide +kernel
theorem dX6_begin_37 : decode cX6_begin 37 = .ok (.iconst 5, 1) := by decide +kernel
theorem dX6_begin_38 : decode cX6_begin 38 = .ok (.iastore, 1) := by decide +kernel
theorem dX6_begin_39 : decode cX6_begin 39 = .ok (.return_, 1) := by decide +kernel
set_option maxRecDepth 100000 in
set_option maxHeartbeats 4000000 in
theorem m_X6_begin {l : Launch} {D : va_G} {E : Nat → ClassId} {T : Nat → Nat} (pp : Nat) (g : Nat → Int32)  : g_M l D E T yX6_begin wsX6_begin 0 0 [.ref pp] [(pp, .inl (E 0, 29, .inl g))] [(pp, .inl (E 0, 29, .inl (pgF iniS)))] none := by
  refine g_M.of (cc := cX6_begin) (nL := 2) (ret := none) (own := RX6) (lv := [(0, .ref pp)]) (by decide) rfl rfl (Nat.le_of_ble_eq_true rfl) rfl ?_
  intro p e R s m args below meth c A Q H locs ls hR hQ hc hr hw hl
  have hx := hc.1
  have hb := hc.2.1
  have hts := hc.2.2.2.1
  have hown := hc.2.2.2.2.1
  refine lv_iconst (v := 0) hx hb dX6_begin_0 (by decide) ?_
  refine lv_istore_n (lv' := [(1, .int 0), (0, .ref pp)]) hx hb dX6_begin_1 rfl hl (by decide) rfl (fun ls hl => ?_)
  have J2 : ∀ (k9 : Nat) (i : Nat), i + k9 = 29 → ∀ (H : Heap) (locs : List Loc) (ls : Array Slot), g_W D A s [(pp, .inl (E 0, 29, .inl (cpI (fun _ => 0) g i)))] H locs → lv_has ls 2 [(0, .ref pp), (1, .int (nI i))] → W p l e R s m args below meth c H locs 0 0 Q (F0 m 2 ls []) := by
    intro k9
    induction k9 with
    | zero =>
      intro i h9   H locs ls hw hl
      have h9 : i = 29 := h9
      subst h9
      refine lv_iload_n hx hb dX6_begin_2 rfl (lv_at hl 1 rfl) ?_
      refine lv_bipush (v := 29) hx hb dX6_begin_3 (by decide) ?_
      refine lv_icmp_ge (tgt := 18) hx hb dX6_begin_5 (by decide) (fun c_5 => ?_) (fun c_5 => absurd (by first | exact Int32.le_refl _ | decide) c_5)
      refine lv_aload_n hx hb dX6_begin_18 rfl (lv_at hl 0 rfl) ?_
      refine lv_bipush (v := 7) hx hb dX6_begin_19 (by decide) ?_
      refine lv_bipush (v := 50) hx hb dX6_begin_21 (by decide) ?_
      refine g_ist hc hw 0 7 rfl rfl (by omega) (by decide) dX6_begin_23 (fun H locs hw => ?_)
      have hw : g_W D A s [(pp, .inl (E 0, 29, .inl (upd (cpI (fun _ => 0) g 29) 7 50)))] H locs := hw
      refine lv_aload_n hx hb dX6_begin_24 rfl (lv_at hl 0 rfl) ?_
      refine lv_bipush (v := 8) hx hb dX6_begin_25 (by decide) ?_
      refine lv_iconst (v := 1) hx hb dX6_begin_27 (by decide) ?_
      refine g_ist hc hw 0 8 rfl rfl (by omega) (by decide) dX6_begin_28 (fun H locs hw => ?_)
      have hw : g_W D A s [(pp, .inl (E 0, 29, .inl (upd (upd (cpI (fun _ => 0) g 29) 7 50) 8 1)))] H locs := hw
      refine lv_aload_n hx hb dX6_begin_29 rfl (lv_at hl 0 rfl) ?_
      refine lv_bipush (v := 9) hx hb dX6_begin_30 (by decide) ?_
      refine lv_iconst (v := 1) hx hb dX6_begin_32 (by decide) ?_
      refine g_ist hc hw 0 9 rfl rfl (by omega) (by decide) dX6_begin_33 (fun H locs hw => ?_)
      have hw : g_W D A s [(pp, .inl (E 0, 29, .inl (upd (upd (upd (cpI (fun _ => 0) g 29) 7 50) 8 1) 9 1)))] H locs := hw
      refine lv_aload_n hx hb dX6_begin_34 rfl (lv_at hl 0 rfl) ?_
      refine lv_bipush (v := 10) hx hb dX6_begin_35 (by decide) ?_
      refine lv_iconst (v := 5) hx hb dX6_begin_37 (by decide) ?_
      refine g_ist hc hw 0 10 rfl rfl (by omega) (by decide) dX6_begin_38 (fun H locs hw => ?_)
      have hw : g_W D A s [(pp, .inl (E 0, 29, .inl (upd (upd (upd (upd (cpI (fun _ => 0) g 29) 7 50) 8 1) 9 1) 10 5)))] H locs := hw
      have hw := g_reI (q0 := 0) (g := pgF iniS) hw rfl (bg_29 g)
      have hw : g_W D A s [(pp, .inl (E 0, 29, .inl (pgF iniS)))] H locs := hw
      exact g_vret hQ hc hw hr rfl rfl dX6_begin_39
    | succ k9 ih =>
      intro i h9   H locs ls hw hl
      have h9b : i < 29 := by omega
      refine lv_iload_n hx hb dX6_begin_2 rfl (lv_at hl 1 rfl) ?_
      refine lv_bipush (v := 29) hx hb dX6_begin_3 (by decide) ?_
      refine lv_icmp_ge (tgt := 18) hx hb dX6_begin_5 (by decide) (fun c_5 => absurd c_5 (nI_ge h9b (by decide))) (fun c_5 => ?_)
      refine lv_aload_n hx hb dX6_begin_8 rfl (lv_at hl 0 rfl) ?_
      refine lv_iload_n hx hb dX6_begin_9 rfl (lv_at hl 1 rfl) ?_
      refine lv_iconst (v := 0) hx hb dX6_begin_10 (by decide) ?_
      refine g_ist hc hw 0 i rfl rfl (by omega) (by decide) dX6_begin_11 (fun H locs hw => ?_)
      have hw : g_W D A s [(pp, .inl (E 0, 29, .inl (upd (cpI (fun _ => 0) g i) i 0)))] H locs := hw
      refine lv_iinc (v := nI (i + 1)) (lv' := [(1, .int (nI (i + 1))), (0, .ref pp)]) hx hb dX6_begin_12 hl (k := 1) rfl (n_inc1 rfl) (by decide) rfl (fun ls hl => ?_)
      refine lv_goto (tgt := 2) hx hb dX6_begin_15 (by decide) ?_
      have hw : g_W D A s [(pp, .inl (E 0, 29, .inl (cpI (fun _ => 0) g (i + 1))))] H locs := by
        have e0 : (upd (cpI (fun _ => 0) g i) i 0) = (cpI (fun _ => 0) g (i + 1)) := by exact cpI_s g rfl
        rw [e0] at hw
        exact hw
      exact ih (i + 1) (by omega)   _ _ _ hw (lv_sub hl [1, 0] rfl)
  have hw : g_W D A s [(pp, .inl (E 0, 29, .inl (cpI (fun _ => 0) g 0)))] H locs := by
    have e0 : g = (cpI (fun _ => 0) g 0) := by exact cpI_0 _ g
    rw [e0] at hw
    exact hw
  exact J2 29 0 (by omega)   _ _ _ hw (lv_sub hl [1, 0] rfl)

theorem dX6_layTrial_0 : decode cX6_layTrial 0 = .ok (.iconst 0, 1) := by decide +kernel
theorem dX6_layTrial_1 : decode cX6_layTrial 1 = .ok (.istore_n 1, 1) := by decide +kernel
theorem dX6_layTrial_2 : decode cX6_layTrial 2 = .ok (.iload_n 1, 1) := by decide +kernel
theorem dX6_layTrial_3 : decode cX6_layTrial 3 = .ok (.bipush 29, 2) := by decide +kernel
theorem dX6_layTrial_5 : decode cX6_layTrial 5 = .ok (.if_icmp .ge 21, 3) := by decide +kernel
theorem dX6_layTrial_8 : decode cX6_layTrial 8 = .ok (.aload_n 0, 1) := by decide +kernel
theorem dX6_layTrial_9 : decode cX6_layTrial 9 = .ok (.getfield 32, 3) := by decide +kernel
theorem dX6_layTrial_12 : decode cX6_layTrial 12 = .ok (.iload_n 1, 1) := by decide +kernel
theorem dX6_layTrial_13 : decode cX6_layTrial 13 = .ok (.aload_n 0, 1) := by decide +kernel
theorem dX6_layTrial_14 : decode cX6_layTrial 14 = .ok (.getfield 25, 3) := by decide +kernel
theorem dX6_layTrial_17 : decode cX6_layTrial 17 = .ok (.iload_n 1, 1) := by decide +kernel
theorem dX6_layTrial_18 : decode cX6_layTrial 18 = .ok (.iaload, 1) := by decide +kernel
theorem dX6_layTrial_19 : decode cX6_layTrial 19 = .ok (.iastore, 1) := by decide +kernel
theorem dX6_layTrial_20 : decode cX6_layTrial 20 = .ok (.iinc 1 1, 3) := by decide +kernel
theorem dX6_layTrial_23 : decode cX6_layTrial 23 = .ok (.goto (-21), 3) := by decide +kernel
theorem dX6_layTrial_26 : decode cX6_layTrial 26 = .ok (.iconst 0, 1) := by decide +kernel
theorem dX6_layTrial_27 : decode cX6_layTrial 27 = .ok (.istore_n 1, 1) := by decide +kernel
theorem dX6_layTrial_28 : decode cX6_layTrial 28 = .ok (.iload_n 1, 1) := by decide +kernel
theorem dX6_layTrial_29 : decode cX6_layTrial 29 = .ok (.iconst 5, 1) := by decide +kernel
theorem dX6_layTrial_30 : decode cX6_layTrial 30 = .ok (.if_icmp .ge 21, 3) := by decide +kernel
theorem dX6_layTrial_33 : decode cX6_layTrial 33 = .ok (.aload_n 0, 1) := by decide +kernel
theorem dX6_layTrial_34 : decode cX6_layTrial 34 = .ok (.getfield 35, 3) := by decide +kernel
theorem dX6_layTrial_37 : decode cX6_layTrial 37 = .ok (.iload_n 1, 1) := by decide +kernel
theorem dX6_layTrial_38 : decode cX6_layTrial 38 = .ok (.aload_n 0, 1) := by decide +kernel
theorem dX6_layTrial_39 : decode cX6_layTrial 39 = .ok (.getfield 28, 3) := by decide +kernel
theorem dX6_layTrial_42 : decode cX6_layTrial 42 = .ok (.iload_n 1, 1) := by decide +kernel
theorem dX6_layTrial_43 : decode cX6_layTrial 43 = .ok (.faload, 1) := by decide +kernel
theorem dX6_layTrial_44 : decode cX6_layTrial 44 = .ok (.fastore, 1) := by decide +kernel
theorem dX6_layTrial_45 : decode cX6_layTrial 45 = .ok (.iinc 1 1, 3) := by decide +kernel
theorem dX6_layTrial_48 : decode cX6_layTrial 48 = .ok (.goto (-20), 3) := by decide +kernel
theorem dX6_layTrial_51 : decode cX6_layTrial 51 = .ok (.return_, 1) := by decide +kernel
theorem inX6_layTrial_X6 : ∀ w ∈ u_ws RX6 TX6 36, w ∈ wsX6_layTrial := fun w h => List.mem_cons_of_mem _ (List.mem_append_right _ h)
set_option maxRecDepth 100000 in
set_option maxHeartbeats 4000000 in
theorem m_X6_layTrial {l : Launch} {D : va_G} {E : Nat → ClassId} {T : Nat → Nat} (o : Nat) (u0 : Value) (u1 : Value) (u2 : Value) (u3 : Value) (u4 : Value) (u5 : Value) (u6 : Value) (u7 : Value) (u8 : Value) (u9 : Value) (u10 : Value) (u15 : Value) (u16 : Value) (u17 : Value) (u18 : Value) (u19 : Value) (u20 : Value) (u21 : Value) (u22 : Value) (u23 : Value) (u24 : Value) (u25 : Value) (u26 : Value) (u27 : Value) (u28 : Value) (u29 : Value) (u30 : Value) (u31 : Value) (u32 : Value) (u33 : Value) (u34 : Value) (u35 : Value) (pa : Nat) (sa : Nat) (ta : Nat) (za : Nat) (pg : Nat → Int32) (fs : Nat → UInt32) (g : Nat → Int32) (gs : Nat → UInt32)  : g_M l D E T yX6_layTrial wsX6_layTrial 0 0 [.ref o] [(o, .inr (6, [u0, u1, u2, u3, u4, u5, u6, u7, u8, u9, u10, .ref pa, .ref sa, .ref ta, .ref za, u15, u16, u17, u18, u19, u20, u21, u22, u23, u24, u25, u26, u27, u28, u29, u30, u31, u32, u33, u34, u35])), (pa, .inl (E 0, 29, .inl pg)), (sa, .inl (E 1, 5, .inr (.inr (.inl fs)))), (ta, .inl (E 0, 29, .inl g)), (za, .inl (E 1, 5, .inr (.inr (.inl gs))))] [(o, .inr (6, [u0, u1, u2, u3, u4, u5, u6, u7, u8, u9, u10, .ref pa, .ref sa, .ref ta, .ref za, u15, u16, u17, u18, u19, u20, u21, u22, u23, u24, u25, u26, u27, u28, u29, u30, u31, u32, u33, u34, u35])), (pa, .inl (E 0, 29, .inl pg)), (sa, .inl (E 1, 5, .inr (.inr (.inl fs)))), (ta, .inl (E 0, 29, .inl pg)), (za, .inl (E 1, 5, .inr (.inr (.inl fs))))] none := by
  refine g_M.of (cc := cX6_layTrial) (nL := 2) (ret := none) (own := RX6) (lv := [(0, .ref o)]) (by decide) rfl rfl (Nat.le_of_ble_eq_true rfl) rfl ?_
  intro p e R s m args below meth c A Q H locs ls hR hQ hc hr hw hl
  have hx := hc.1
  have hb := hc.2.1
  have hts := hc.2.2.2.1
  have hown := hc.2.2.2.2.1
  refine lv_iconst (v := 0) hx hb dX6_layTrial_0 (by decide) ?_
  refine lv_istore_n (lv' := [(1, .int 0), (0, .ref o)]) hx hb dX6_layTrial_1 rfl hl (by decide) rfl (fun ls hl => ?_)
  have J2 : ∀ (k9 : Nat) (i : Nat), i + k9 = 29 → ∀ (H : Heap) (locs : List Loc) (ls : Array Slot), g_W D A s [(o, .inr (6, [u0, u1, u2, u3, u4, u5, u6, u7, u8, u9, u10, .ref pa, .ref sa, .ref ta, .ref za, u15, u16, u17, u18, u19, u20, u21, u22, u23, u24, u25, u26, u27, u28, u29, u30, u31, u32, u33, u34, u35])), (pa, .inl (E 0, 29, .inl pg)), (sa, .inl (E 1, 5, .inr (.inr (.inl fs)))), (ta, .inl (E 0, 29, .inl (cpI pg g i))), (za, .inl (E 1, 5, .inr (.inr (.inl gs))))] H locs → lv_has ls 2 [(0, .ref o), (1, .int (nI i))] → W p l e R s m args below meth c H locs 0 0 Q (F0 m 2 ls []) := by
    intro k9
    induction k9 with
    | zero =>
      intro i h9   H locs ls hw hl
      have h9 : i = 29 := h9
      subst h9
      refine lv_iload_n hx hb dX6_layTrial_2 rfl (lv_at hl 1 rfl) ?_
      refine lv_bipush (v := 29) hx hb dX6_layTrial_3 (by decide) ?_
      refine lv_icmp_ge (tgt := 26) hx hb dX6_layTrial_5 (by decide) (fun c_5 => ?_) (fun c_5 => absurd (by first | exact Int32.le_refl _ | decide) c_5)
      refine lv_iconst (v := 0) hx hb dX6_layTrial_26 (by decide) ?_
      refine lv_istore_n (lv' := [(1, .int 0), (0, .ref o)]) hx hb dX6_layTrial_27 rfl hl (by decide) rfl (fun ls hl => ?_)
      have J28 : ∀ (k9 : Nat) (i : Nat), i + k9 = 5 → ∀ (H : Heap) (locs : List Loc) (ls : Array Slot), g_W D A s [(o, .inr (6, [u0, u1, u2, u3, u4, u5, u6, u7, u8, u9, u10, .ref pa, .ref sa, .ref ta, .ref za, u15, u16, u17, u18, u19, u20, u21, u22, u23, u24, u25, u26, u27, u28, u29, u30, u31, u32, u33, u34, u35])), (pa, .inl (E 0, 29, .inl pg)), (sa, .inl (E 1, 5, .inr (.inr (.inl fs)))), (ta, .inl (E 0, 29, .inl (cpI pg g 29))), (za, .inl (E 1, 5, .inr (.inr (.inl (cpF fs gs i)))))] H locs → lv_has ls 2 [(0, .ref o), (1, .int (nI i))] → W p l e R s m args below meth c H locs 0 0 Q (F0 m 28 ls []) := by
        intro k9
        induction k9 with
        | zero =>
          intro i h9   H locs ls hw hl
          have h9 : i = 5 := h9
          subst h9
          refine lv_iload_n hx hb dX6_layTrial_28 rfl (lv_at hl 1 rfl) ?_
          refine lv_iconst (v := 5) hx hb dX6_layTrial_29 (by decide) ?_
          refine lv_icmp_ge (tgt := 51) hx hb dX6_layTrial_30 (by decide) (fun c_30 => ?_) (fun c_30 => absurd (by first | exact Int32.le_refl _ | decide) c_30)
          have hw := g_reI (q0 := 3) (g := pg) hw rfl (cpI_n pg g 29)
          have hw : g_W D A s [(o, .inr (6, [u0, u1, u2, u3, u4, u5, u6, u7, u8, u9, u10, .ref pa, .ref sa, .ref ta, .ref za, u15, u16, u17, u18, u19, u20, u21, u22, u23, u24, u25, u26, u27, u28, u29, u30, u31, u32, u33, u34, u35])), (pa, .inl (E 0, 29, .inl pg)), (sa, .inl (E 1, 5, .inr (.inr (.inl fs)))), (ta, .inl (E 0, 29, .inl pg)), (za, .inl (E 1, 5, .inr (.inr (.inl (cpF fs gs 5)))))] H locs := hw
          have hw := g_reF (q0 := 4) (g := fs) hw rfl (cpF_n fs gs 5)
          have hw : g_W D A s [(o, .inr (6, [u0, u1, u2, u3, u4, u5, u6, u7, u8, u9, u10, .ref pa, .ref sa, .ref ta, .ref za, u15, u16, u17, u18, u19, u20, u21, u22, u23, u24, u25, u26, u27, u28, u29, u30, u31, u32, u33, u34, u35])), (pa, .inl (E 0, 29, .inl pg)), (sa, .inl (E 1, 5, .inr (.inr (.inl fs)))), (ta, .inl (E 0, 29, .inl pg)), (za, .inl (E 1, 5, .inr (.inr (.inl fs))))] H locs := hw
          exact g_vret hQ hc hw hr rfl rfl dX6_layTrial_51
        | succ k9 ih =>
          intro i h9   H locs ls hw hl
          have h9b : i < 5 := by omega
          refine lv_iload_n hx hb dX6_layTrial_28 rfl (lv_at hl 1 rfl) ?_
          refine lv_iconst (v := 5) hx hb dX6_layTrial_29 (by decide) ?_
          refine lv_icmp_ge (tgt := 51) hx hb dX6_layTrial_30 (by decide) (fun c_30 => absurd c_30 (nI_ge h9b (by decide))) (fun c_30 => ?_)
          refine lv_aload_n hx hb dX6_layTrial_33 rfl (lv_at hl 0 rfl) ?_
          refine g_get (TT := TX6) hc hw inX6_layTrial_X6 0 14 3 rfl rfl (by decide) rfl rfl dX6_layTrial_34 ?_
          refine lv_iload_n hx hb dX6_layTrial_37 rfl (lv_at hl 1 rfl) ?_
          refine lv_aload_n hx hb dX6_layTrial_38 rfl (lv_at hl 0 rfl) ?_
          refine g_get (TT := TX6) hc hw inX6_layTrial_X6 0 12 4 rfl rfl (by decide) rfl rfl dX6_layTrial_39 ?_
          refine lv_iload_n hx hb dX6_layTrial_42 rfl (lv_at hl 1 rfl) ?_
          refine g_fld hc hw 2 i rfl rfl (by omega) (by decide) dX6_layTrial_43 ?_
          refine g_fst hc hw 4 i rfl rfl (by omega) (by decide) dX6_layTrial_44 (fun H locs hw => ?_)
          have hw : g_W D A s [(o, .inr (6, [u0, u1, u2, u3, u4, u5, u6, u7, u8, u9, u10, .ref pa, .ref sa, .ref ta, .ref za, u15, u16, u17, u18, u19, u20, u21, u22, u23, u24, u25, u26, u27, u28, u29, u30, u31, u32, u33, u34, u35])), (pa, .inl (E 0, 29, .inl pg)), (sa, .inl (E 1, 5, .inr (.inr (.inl fs)))), (ta, .inl (E 0, 29, .inl (cpI pg g 29))), (za, .inl (E 1, 5, .inr (.inr (.inl (vf_upd (cpF fs gs i) i (fs i))))))] H locs := hw
          refine lv_iinc (v := nI (i + 1)) (lv' := [(1, .int (nI (i + 1))), (0, .ref o)]) hx hb dX6_layTrial_45 hl (k := 1) rfl (n_inc1 rfl) (by decide) rfl (fun ls hl => ?_)
          refine lv_goto (tgt := 28) hx hb dX6_layTrial_48 (by decide) ?_
          have hw : g_W D A s [(o, .inr (6, [u0, u1, u2, u3, u4, u5, u6, u7, u8, u9, u10, .ref pa, .ref sa, .ref ta, .ref za, u15, u16, u17, u18, u19, u20, u21, u22, u23, u24, u25, u26, u27, u28, u29, u30, u31, u32, u33, u34, u35])), (pa, .inl (E 0, 29, .inl pg)), (sa, .inl (E 1, 5, .inr (.inr (.inl fs)))), (ta, .inl (E 0, 29, .inl (cpI pg g 29))), (za, .inl (E 1, 5, .inr (.inr (.inl (cpF fs gs (i + 1))))))] H locs := by
            have e4 : (vf_upd (cpF fs gs i) i (fs i)) = (cpF fs gs (i + 1)) := by exact cpF_s gs rfl
            rw [e4] at hw
            exact hw
          exact ih (i + 1) (by omega)   _ _ _ hw (lv_sub hl [1, 0] rfl)
      have hw : g_W D A s [(o, .inr (6, [u0, u1, u2, u3, u4, u5, u6, u7, u8, u9, u10, .ref pa, .ref sa, .ref ta, .ref za, u15, u16, u17, u18, u19, u20, u21, u22, u23, u24, u25, u26, u27, u28, u29, u30, u31, u32, u33, u34, u35])), (pa, .inl (E 0, 29, .inl pg)), (sa, .inl (E 1, 5, .inr (.inr (.inl fs)))), (ta, .inl (E 0, 29, .inl (cpI pg g 29))), (za, .inl (E 1, 5, .inr (.inr (.inl (cpF fs gs 0)))))] H locs := by
        have e4 : gs = (cpF fs gs 0) := by exact cpF_0 _ gs
        rw [e4] at hw
        exact hw
      exact J28 5 0 (by omega)   _ _ _ hw (lv_sub hl [1, 0] rfl)
    | succ k9 ih =>
      intro i h9   H locs ls hw hl
      have h9b : i < 29 := by omega
      refine lv_iload_n hx hb dX6_layTrial_2 rfl (lv_at hl 1 rfl) ?_
      refine lv_bipush (v := 29) hx hb dX6_layTrial_3 (by decide) ?_
      refine lv_icmp_ge (tgt := 26) hx hb dX6_layTrial_5 (by decide) (fun c_5 => absurd c_5 (nI_ge h9b (by decide))) (fun c_5 => ?_)
      refine lv_aload_n hx hb dX6_layTrial_8 rfl (lv_at hl 0 rfl) ?_
      refine g_get (TT := TX6) hc hw inX6_layTrial_X6 0 13 1 rfl rfl (by decide) rfl rfl dX6_layTrial_9 ?_
      refine lv_iload_n hx hb dX6_layTrial_12 rfl (lv_at hl 1 rfl) ?_
      refine lv_aload_n hx hb dX6_layTrial_13 rfl (lv_at hl 0 rfl) ?_
      refine g_get (TT := TX6) hc hw inX6_layTrial_X6 0 11 2 rfl rfl (by decide) rfl rfl dX6_layTrial_14 ?_
      refine lv_iload_n hx hb dX6_layTrial_17 rfl (lv_at hl 1 rfl) ?_
      refine g_ild hc hw 1 i rfl rfl (by omega) (by decide) dX6_layTrial_18 ?_
      refine g_ist hc hw 3 i rfl rfl (by omega) (by decide) dX6_layTrial_19 (fun H locs hw => ?_)
      have hw : g_W D A s [(o, .inr (6, [u0, u1, u2, u3, u4, u5, u6, u7, u8, u9, u10, .ref pa, .ref sa, .ref ta, .ref za, u15, u16, u17, u18, u19, u20, u21, u22, u23, u24, u25, u26, u27, u28, u29, u30, u31, u32, u33, u34, u35])), (pa, .inl (E 0, 29, .inl pg)), (sa, .inl (E 1, 5, .inr (.inr (.inl fs)))), (ta, .inl (E 0, 29, .inl (upd (cpI pg g i) i (pg i)))), (za, .inl (E 1, 5, .inr (.inr (.inl gs))))] H locs := hw
      refine lv_iinc (v := nI (i + 1)) (lv' := [(1, .int (nI (i + 1))), (0, .ref o)]) hx hb dX6_layTrial_20 hl (k := 1) rfl (n_inc1 rfl) (by decide) rfl (fun ls hl => ?_)
      refine lv_goto (tgt := 2) hx hb dX6_layTrial_23 (by decide) ?_
      have hw : g_W D A s [(o, .inr (6, [u0, u1, u2, u3, u4, u5, u6, u7, u8, u9, u10, .ref pa, .ref sa, .ref ta, .ref za, u15, u16, u17, u18, u19, u20, u21, u22, u23, u24, u25, u26, u27, u28, u29, u30, u31, u32, u33, u34, u35])), (pa, .inl (E 0, 29, .inl pg)), (sa, .inl (E 1, 5, .inr (.inr (.inl fs)))), (ta, .inl (E 0, 29, .inl (cpI pg g (i + 1)))), (za, .inl (E 1, 5, .inr (.inr (.inl gs))))] H locs := by
        have e3 : (upd (cpI pg g i) i (pg i)) = (cpI pg g (i + 1)) := by exact cpI_s g rfl
        rw [e3] at hw
        exact hw
      exact ih (i + 1) (by omega)   _ _ _ hw (lv_sub hl [1, 0] rfl)
  have hw : g_W D A s [(o, .inr (6, [u0, u1, u2, u3, u4, u5, u6, u7, u8, u9, u10, .ref pa, .ref sa, .ref ta, .ref za, u15, u16, u17, u18, u19, u20, u21, u22, u23, u24, u25, u26, u27, u28, u29, u30, u31, u32, u33, u34, u35])), (pa, .inl (E 0, 29, .inl pg)), (sa, .inl (E 1, 5, .inr (.inr (.inl fs)))), (ta, .inl (E 0, 29, .inl (cpI pg g 0))), (za, .inl (E 1, 5, .inr (.inr (.inl gs))))] H locs := by
    have e3 : g = (cpI pg g 0) := by exact cpI_0 _ g
    rw [e3] at hw
    exact hw
  exact J2 29 0 (by omega)   _ _ _ hw (lv_sub hl [1, 0] rfl)

theorem dX6_size_0 : decode cX6_size 0 = .ok (.fload_n 0, 1) := by decide +kernel
theorem dX6_size_1 : decode cX6_size 1 = .ok (.fconst 0, 1) := by decide +kernel
theorem dX6_size_2 : decode cX6_size 2 = .ok (.fcmp .g, 1) := by decide +kernel
theorem dX6_size_3 : decode cX6_size 3 = .ok (.ifCond .ge 8, 3) := by decide +kernel
theorem dX6_size_6 : decode cX6_size 6 = .ok (.fload_n 0, 1) := by decide +kernel
theorem dX6_size_7 : decode cX6_size 7 = .ok (.fneg, 1) := by decide +kernel
theorem dX6_size_8 : decode cX6_size 8 = .ok (.goto 4, 3) := by decide +kernel
theorem dX6_size_11 : decode cX6_size 11 = .ok (.fload_n 0, 1) := by decide +kernel
theorem dX6_size_12 : decode cX6_size 12 = .ok (.freturn, 1) := by decide +kernel
set_option maxRecDepth 100000 in
set_option maxHeartbeats 4000000 in
theorem m_X6_size {l : Launch} {D : va_G} {E : Nat → ClassId} {T : Nat → Nat} (x : UInt32)  : g_M l D E T yX6_size wsX6_size 0 0 [.float x] [] [] (some (.float (fsz x))) := by
  refine g_M.of (cc := cX6_size) (nL := 1) (ret := (some .float)) (own := RX6) (lv := [(0, .float x)]) (by decide) rfl rfl (Nat.le_of_ble_eq_true rfl) rfl ?_
  intro p e R s m args below meth c A Q H locs ls hR hQ hc hr hw hl
  have hx := hc.1
  have hb := hc.2.1
  have hts := hc.2.2.2.1
  have hown := hc.2.2.2.2.1
  refine lv_fload_n hx hb dX6_size_0 rfl (lv_at hl 0 rfl) ?_
  refine lv_fconst0 hx hb dX6_size_1 ?_
  refine lv_fcmp hx hb dX6_size_2 ?_
  refine lv_if_ge (tgt := 11) hx hb dX6_size_3 (by decide) (fun c_3 => ?_) (fun c_3 => ?_)
  · skip
    have k_3 := g_cgl c_3
    refine lv_fload_n hx hb dX6_size_11 rfl (lv_at hl 0 rfl) ?_
    exact g_fret hQ hc hw hr (by exact congrArg (fun z => some (Value.float z)) (fsz_F (g_cgl c_3))) rfl dX6_size_12
  · skip
    have k_3 := g_cgt c_3
    refine lv_fload_n hx hb dX6_size_6 rfl (lv_at hl 0 rfl) ?_
    refine lv_fneg hx hb dX6_size_7 ?_
    refine lv_goto (tgt := 12) hx hb dX6_size_8 (by decide) ?_
    exact g_fret hQ hc hw hr (by exact congrArg (fun z => some (Value.float z)) (fsz_T (g_cgt c_3))) rfl dX6_size_12

theorem dX6_layWant_0 : decode cX6_layWant 0 = .ok (.iconst 0, 1) := by decide +kernel
theorem dX6_layWant_1 : decode cX6_layWant 1 = .ok (.istore 5, 2) := by decide +kernel
theorem dX6_layWant_3 : decode cX6_layWant 3 = .ok (.iload 5, 2) := by decide +kernel
theorem dX6_layWant_5 : decode cX6_layWant 5 = .ok (.iconst 3, 1) := by decide +kernel
theorem dX6_layWant_6 : decode cX6_layWant 6 = .ok (.if_icmp .ge 46, 3) := by decide +kernel
theorem dX6_layWant_9 : decode cX6_layWant 9 = .ok (.aload_n 0, 1) := by decide +kernel
theorem dX6_layWant_10 : decode cX6_layWant 10 = .ok (.getfield 66, 3) := by decide +kernel
theorem dX6_layWant_13 : decode cX6_layWant 13 = .ok (.iload 5, 2) := by decide +kernel
theorem dX6_layWant_15 : decode cX6_layWant 15 = .ok (.aload_n 0, 1) := by decide +kernel
theorem dX6_layWant_16 : decode cX6_layWant 16 = .ok (.getfield 130, 3) := by decide +kernel
theorem dX6_layWant_19 : decode cX6_layWant 19 = .ok (.ifCond .ne 7, 3) := by decide +kernel
theorem dX6_layWant_22 : decode cX6_layWant 22 = .ok (.iconst 0, 1) := by decide +kernel
theorem dX6_layWant_23 : decode cX6_layWant 23 = .ok (.goto 22, 3) := by decide +kernel
theorem dX6_layWant_26 : decode cX6_layWant 26 = .ok (.aload_n 1, 1) := by decide +kernel
theorem dX6_layWant_27 : decode cX6_layWant 27 = .ok (.bipush 11, 2) := by decide +kernel
theorem dX6_layWant_29 : decode cX6_layWant 29 = .ok (.iconst 3, 1) := by decide +kernel
theorem dX6_layWant_30 : decode cX6_layWant 30 = .ok (.aload_n 1, 1) := by decide +kernel
theorem dX6_layWant_31 : decode cX6_layWant 31 = .ok (.bipush 6, 2) := by decide +kernel
theorem dX6_layWant_33 : decode cX6_layWant 33 = .ok (.iaload, 1) := by decide +kernel
theorem dX6_layWant_34 : decode cX6_layWant 34 = .ok (.aload_n 0, 1) := by decide +kernel
theorem dX6_layWant_35 : decode cX6_layWant 35 = .ok (.getfield 130, 3) := by decide +kernel
theorem dX6_layWant_38 : decode cX6_layWant 38 = .ok (.irem, 1) := by decide +kernel
theorem dX6_layWant_39 : decode cX6_layWant 39 = .ok (.imul, 1) := by decide +kernel
theorem dX6_layWant_40 : decode cX6_layWant 40 = .ok (.iadd, 1) := by decide +kernel
theorem dX6_layWant_41 : decode cX6_layWant 41 = .ok (.iload 5, 2) := by decide +kernel
theorem dX6_layWant_43 : decode cX6_layWant 43 = .ok (.iadd, 1) := by decide +kernel
theorem dX6_layWant_44 : decode cX6_layWant 44 = .ok (.iaload, 1) := by decide +kernel
theorem dX6_layWant_45 : decode cX6_layWant 45 = .ok (.iastore, 1) := by decide +kernel
theorem dX6_layWant_46 : decode cX6_layWant 46 = .ok (.iinc 5 1, 3) := by decide +kernel
theorem dX6_layWant_49 : decode cX6_layWant 49 = .ok (.goto (-46), 3) := by decide +kernel
theorem dX6_layWant_52 : decode cX6_layWant 52 = .ok (.aload_n 0, 1) := by decide +kernel
theorem dX6_layWant_53 : decode cX6_layWant 53 = .ok (.getfield 66, 3) := by decide +kernel
theorem dX6_layWant_56 : decode cX6_layWant 56 = .ok (.iconst 0, 1) := by decide +kernel
theorem dX6_layWant_57 : decode cX6_layWant 57 = .ok (.dup2, 1) := by decide +kernel
theorem dX6_layWant_58 : decode cX6_layWant 58 = .ok (.iaload, 1) := by decide +kernel
theorem dX6_layWant_59 : decode cX6_layWant 59 = .ok (.iload_n 2, 1) := by decide +kernel
theorem dX6_layWant_60 : decode cX6_layWant 60 = .ok (.iadd, 1) := by decide +kernel
theorem dX6_layWant_61 : decode cX6_layWant 61 = .ok (.iastore, 1) := by decide +kernel
theorem dX6_layWant_62 : decode cX6_layWant 62 = .ok (.aload_n 0, 1) := by decide +kernel
theorem dX6_layWant_63 : decode cX6_layWant 63 = .ok (.getfield 66, 3) := by decide +kernel
theorem dX6_layWant_66 : decode cX6_layWant 66 = .ok (.iconst 1, 1) := by decide +kernel
theorem dX6_layWant_67 : decode cX6_layWant 67 = .ok (.dup2, 1) := by decide +kernel
theorem dX6_layWant_68 : decode cX6_layWant 68 = .ok (.iaload, 1) := by decide +kernel
theorem dX6_layWant_69 : decode cX6_layWant 69 = .ok (.iload_n 3, 1) := by decide +kernel
theorem dX6_layWant_70 : decode cX6_layWant 70 = .ok (.iadd, 1) := by decide +kernel
theorem dX6_layWant_71 : decode cX6_layWant 71 = .ok (.iastore, 1) := by decide +kernel
theorem dX6_layWant_72 : decode cX6_layWant 72 = .ok (.aload_n 0, 1) := by decide +kernel
theorem dX6_layWant_73 : decode cX6_layWant 73 = .ok (.getfield 66, 3) := by decide +kernel
theorem dX6_layWant_76 : decode cX6_layWant 76 = .ok (.iconst 2, 1) := by decide +kernel
theorem dX6_layWant_77 : decode cX6_layWant 77 = .ok (.dup2, 1) := by decide +kernel
theorem dX6_layWant_78 : decode cX6_layWant 78 = .ok (.iaload, 1) := by decide +kernel
theorem dX6_layWant_79 : decode cX6_layWant 79 = .ok (.iload 4, 2) := by decide +kernel
theorem dX6_layWant_81 : decode cX6_layWant 81 = .ok (.iadd, 1) := by decide +kernel
theorem dX6_layWant_82 : decode cX6_layWant 82 = .ok (.iastore, 1) := by decide +kernel
theorem dX6_layWant_83 : decode cX6_layWant 83 = .ok (.return_, 1) := by decide +kernel
theorem inX6_layWant_X6 : ∀ w ∈ u_ws RX6 TX6 36, w ∈ wsX6_layWant := fun w h => List.mem_cons_of_mem _ (List.mem_append_right _ h)
set_option maxRecDepth 100000 in
set_option maxHeartbeats 4000000 in
theorem m_X6_layWant {l : Launch} {D : va_G} {E : Nat → ClassId} {T : Nat → Nat} (o : Nat) (pp : Nat) (nw : Nat) (wa : Nat) (u0 : Value) (u1 : Value) (u2 : Value) (u3 : Value) (u5 : Value) (u6 : Value) (u7 : Value) (u8 : Value) (u9 : Value) (u10 : Value) (u11 : Value) (u12 : Value) (u13 : Value) (u14 : Value) (u15 : Value) (u16 : Value) (u17 : Value) (u18 : Value) (u19 : Value) (u20 : Value) (u21 : Value) (u22 : Value) (u23 : Value) (u24 : Value) (u25 : Value) (u26 : Value) (u28 : Value) (u29 : Value) (u30 : Value) (u31 : Value) (u32 : Value) (u33 : Value) (u34 : Value) (u35 : Value) (S : TS) (g : Nat → Int32) (x : Int32) (y : Int32) (z : Int32) (hn : nw ≤ 6) (hk : sK S < 2 ^ 31) : g_M l D E T yX6_layWant wsX6_layWant 0 0 [.ref o, .ref pp, .int x, .int y, .int z] [(o, .inr (6, [u0, u1, u2, u3, .int (nI nw), u5, u6, u7, u8, u9, u10, u11, u12, u13, u14, u15, u16, u17, u18, u19, u20, u21, u22, u23, u24, u25, u26, .ref wa, u28, u29, u30, u31, u32, u33, u34, u35])), (pp, .inl (E 0, 29, .inl (pgF S))), (wa, .inl (E 0, 3, .inl g))] [(o, .inr (6, [u0, u1, u2, u3, .int (nI nw), u5, u6, u7, u8, u9, u10, u11, u12, u13, u14, u15, u16, u17, u18, u19, u20, u21, u22, u23, u24, u25, u26, .ref wa, u28, u29, u30, u31, u32, u33, u34, u35])), (pp, .inl (E 0, 29, .inl (pgF S))), (wa, .inl (E 0, 3, .inl (wnF nw (x3F x y z) S)))] none := by
  refine g_M.of (cc := cX6_layWant) (nL := 6) (ret := none) (own := RX6) (lv := [(0, .ref o), (1, .ref pp), (2, .int x), (3, .int y), (4, .int z)]) (by decide) rfl rfl (Nat.le_of_ble_eq_true rfl) rfl ?_
  intro p e R s m args below meth c A Q H locs ls hR hQ hc hr hw hl
  have hx := hc.1
  have hb := hc.2.1
  have hts := hc.2.2.2.1
  have hown := hc.2.2.2.2.1
  refine lv_iconst (v := 0) hx hb dX6_layWant_0 (by decide) ?_
  refine lv_istore (lv' := [(5, .int 0), (0, .ref o), (1, .ref pp), (2, .int x), (3, .int y), (4, .int z)]) hx hb dX6_layWant_1 hl (by decide) rfl (fun ls hl => ?_)
  have J3 : ∀ (k9 : Nat) (i : Nat), i + k9 = 3 → ∀ (H : Heap) (locs : List Loc) (ls : Array Slot), g_W D A s [(o, .inr (6, [u0, u1, u2, u3, .int (nI nw), u5, u6, u7, u8, u9, u10, u11, u12, u13, u14, u15, u16, u17, u18, u19, u20, u21, u22, u23, u24, u25, u26, .ref wa, u28, u29, u30, u31, u32, u33, u34, u35])), (pp, .inl (E 0, 29, .inl (pgF S))), (wa, .inl (E 0, 3, .inl (cpI (cmF (sW S) nw (sK S)) g i)))] H locs → lv_has ls 6 [(0, .ref o), (1, .ref pp), (2, .int x), (3, .int y), (4, .int z), (5, .int (nI i))] → W p l e R s m args below meth c H locs 0 0 Q (F0 m 3 ls []) := by
    intro k9
    induction k9 with
    | zero =>
      intro i h9   H locs ls hw hl
      have h9 : i = 3 := h9
      subst h9
      refine lv_iload hx hb dX6_layWant_3 (lv_at hl 5 rfl) ?_
      refine lv_iconst (v := 3) hx hb dX6_layWant_5 (by decide) ?_
      refine lv_icmp_ge (tgt := 52) hx hb dX6_layWant_6 (by decide) (fun c_6 => ?_) (fun c_6 => absurd (by first | exact Int32.le_refl _ | decide) c_6)
      refine lv_aload_n hx hb dX6_layWant_52 rfl (lv_at hl 0 rfl) ?_
      refine g_get (TT := TX6) hc hw inX6_layWant_X6 0 27 1 rfl rfl (by decide) rfl rfl dX6_layWant_53 ?_
      refine lv_iconst (v := 0) hx hb dX6_layWant_56 (by decide) ?_
      refine lv_dup2_11 hx hb dX6_layWant_57 rfl rfl ?_
      refine g_ild hc hw 2 0 rfl rfl (by omega) (by decide) dX6_layWant_58 ?_
      refine lv_iload_n hx hb dX6_layWant_59 rfl (lv_at hl 2 rfl) ?_
      refine lv_iadd hx hb dX6_layWant_60 ?_
      refine g_ist hc hw 2 0 rfl rfl (by omega) (by decide) dX6_layWant_61 (fun H locs hw => ?_)
      have hw : g_W D A s [(o, .inr (6, [u0, u1, u2, u3, .int (nI nw), u5, u6, u7, u8, u9, u10, u11, u12, u13, u14, u15, u16, u17, u18, u19, u20, u21, u22, u23, u24, u25, u26, .ref wa, u28, u29, u30, u31, u32, u33, u34, u35])), (pp, .inl (E 0, 29, .inl (pgF S))), (wa, .inl (E 0, 3, .inl (upd (cpI (cmF (sW S) nw (sK S)) g 3) 0 (((cpI (cmF (sW S) nw (sK S)) g 3) 0) + x))))] H locs := hw
      refine lv_aload_n hx hb dX6_layWant_62 rfl (lv_at hl 0 rfl) ?_
      refine g_get (TT := TX6) hc hw inX6_layWant_X6 0 27 1 rfl rfl (by decide) rfl rfl dX6_layWant_63 ?_
      refine lv_iconst (v := 1) hx hb dX6_layWant_66 (by decide) ?_
      refine lv_dup2_11 hx hb dX6_layWant_67 rfl rfl ?_
      refine g_ild hc hw 2 1 rfl rfl (by omega) (by decide) dX6_layWant_68 ?_
      refine lv_iload_n hx hb dX6_layWant_69 rfl (lv_at hl 3 rfl) ?_
      refine lv_iadd hx hb dX6_layWant_70 ?_
      refine g_ist hc hw 2 1 rfl rfl (by omega) (by decide) dX6_layWant_71 (fun H locs hw => ?_)
      have hw : g_W D A s [(o, .inr (6, [u0, u1, u2, u3, .int (nI nw), u5, u6, u7, u8, u9, u10, u11, u12, u13, u14, u15, u16, u17, u18, u19, u20, u21, u22, u23, u24, u25, u26, .ref wa, u28, u29, u30, u31, u32, u33, u34, u35])), (pp, .inl (E 0, 29, .inl (pgF S))), (wa, .inl (E 0, 3, .inl (upd (upd (cpI (cmF (sW S) nw (sK S)) g 3) 0 (((cpI (cmF (sW S) nw (sK S)) g 3) 0) + x)) 1 (((upd (cpI (cmF (sW S) nw (sK S)) g 3) 0 (((cpI (cmF (sW S) nw (sK S)) g 3) 0) + x)) 1) + y))))] H locs := hw
      refine lv_aload_n hx hb dX6_layWant_72 rfl (lv_at hl 0 rfl) ?_
      refine g_get (TT := TX6) hc hw inX6_layWant_X6 0 27 1 rfl rfl (by decide) rfl rfl dX6_layWant_73 ?_
      refine lv_iconst (v := 2) hx hb dX6_layWant_76 (by decide) ?_
      refine lv_dup2_11 hx hb dX6_layWant_77 rfl rfl ?_
      refine g_ild hc hw 2 2 rfl rfl (by omega) (by decide) dX6_layWant_78 ?_
      refine lv_iload hx hb dX6_layWant_79 (lv_at hl 4 rfl) ?_
      refine lv_iadd hx hb dX6_layWant_81 ?_
      refine g_ist hc hw 2 2 rfl rfl (by omega) (by decide) dX6_layWant_82 (fun H locs hw => ?_)
      have hw : g_W D A s [(o, .inr (6, [u0, u1, u2, u3, .int (nI nw), u5, u6, u7, u8, u9, u10, u11, u12, u13, u14, u15, u16, u17, u18, u19, u20, u21, u22, u23, u24, u25, u26, .ref wa, u28, u29, u30, u31, u32, u33, u34, u35])), (pp, .inl (E 0, 29, .inl (pgF S))), (wa, .inl (E 0, 3, .inl (upd (upd (upd (cpI (cmF (sW S) nw (sK S)) g 3) 0 (((cpI (cmF (sW S) nw (sK S)) g 3) 0) + x)) 1 (((upd (cpI (cmF (sW S) nw (sK S)) g 3) 0 (((cpI (cmF (sW S) nw (sK S)) g 3) 0) + x)) 1) + y)) 2 (((upd (upd (cpI (cmF (sW S) nw (sK S)) g 3) 0 (((cpI (cmF (sW S) nw (sK S)) g 3) 0) + x)) 1 (((upd (cpI (cmF (sW S) nw (sK S)) g 3) 0 (((cpI (cmF (sW S) nw (sK S)) g 3) 0) + x)) 1) + y)) 2) + z))))] H locs := hw
      have hw := g_reI (q0 := 2) (g := wnF nw (x3F x y z) S) hw rfl (wn_3 nw x y z S g)
      have hw : g_W D A s [(o, .inr (6, [u0, u1, u2, u3, .int (nI nw), u5, u6, u7, u8, u9, u10, u11, u12, u13, u14, u15, u16, u17, u18, u19, u20, u21, u22, u23, u24, u25, u26, .ref wa, u28, u29, u30, u31, u32, u33, u34, u35])), (pp, .inl (E 0, 29, .inl (pgF S))), (wa, .inl (E 0, 3, .inl (wnF nw (x3F x y z) S)))] H locs := hw
      exact g_vret hQ hc hw hr rfl rfl dX6_layWant_83
    | succ k9 ih =>
      intro i h9   H locs ls hw hl
      have h9b : i < 3 := by omega
      refine lv_iload hx hb dX6_layWant_3 (lv_at hl 5 rfl) ?_
      refine lv_iconst (v := 3) hx hb dX6_layWant_5 (by decide) ?_
      refine lv_icmp_ge (tgt := 52) hx hb dX6_layWant_6 (by decide) (fun c_6 => absurd c_6 (nI_ge h9b (by decide))) (fun c_6 => ?_)
      refine lv_aload_n hx hb dX6_layWant_9 rfl (lv_at hl 0 rfl) ?_
      refine g_get (TT := TX6) hc hw inX6_layWant_X6 0 27 1 rfl rfl (by decide) rfl rfl dX6_layWant_10 ?_
      refine lv_iload hx hb dX6_layWant_13 (lv_at hl 5 rfl) ?_
      refine lv_aload_n hx hb dX6_layWant_15 rfl (lv_at hl 0 rfl) ?_
      refine g_get (TT := TX6) hc hw inX6_layWant_X6 0 4 2 rfl rfl (by decide) rfl rfl dX6_layWant_16 ?_
      refine lv_if_ne (tgt := 26) hx hb dX6_layWant_19 (by decide) (fun c_19 => ?_) (fun c_19 => ?_)
      · skip
        have hn0 : 0 < nw := Nat.pos_of_ne_zero (fun q => c_19 (by rw [q]; rfl))
        refine lv_aload_n hx hb dX6_layWant_26 rfl (lv_at hl 1 rfl) ?_
        refine lv_bipush (v := 11) hx hb dX6_layWant_27 (by decide) ?_
        refine lv_iconst (v := 3) hx hb dX6_layWant_29 (by decide) ?_
        refine lv_aload_n hx hb dX6_layWant_30 rfl (lv_at hl 1 rfl) ?_
        refine lv_bipush (v := 6) hx hb dX6_layWant_31 (by decide) ?_
        refine g_ild hc hw 1 6 rfl rfl (by omega) (by decide) dX6_layWant_33 ?_
        refine W.eq (congrArg (fun z => F0 m 34 ls (.int z :: [.int 3, .int 11, .ref pp, .int (nI i), .ref wa])) (show ((pgF S) 6 : Int32) = nI (sK S) from rfl)) ?_
        refine lv_aload_n hx hb dX6_layWant_34 rfl (lv_at hl 0 rfl) ?_
        refine g_get (TT := TX6) hc hw inX6_layWant_X6 0 4 2 rfl rfl (by decide) rfl rfl dX6_layWant_35 ?_
        refine lv_irem hx hb dX6_layWant_38 (nI_ne0 hn0 (by omega)) ?_
        refine lv_imul hx hb dX6_layWant_39 ?_
        refine lv_iadd hx hb dX6_layWant_40 ?_
        refine lv_iload hx hb dX6_layWant_41 (lv_at hl 5 rfl) ?_
        refine lv_iadd hx hb dX6_layWant_43 ?_
        refine g_ild hc hw 1 ((11 + (3 * ((sK S) % nw))) + i) rfl (n_add (n_add rfl (n_mul rfl (n_rem rfl rfl (by omega) (by omega) (by omega)))) rfl) (by have := Nat.mod_lt (sK S) hn0; omega) (by decide) dX6_layWant_44 ?_
        refine g_ist hc hw 2 i rfl rfl (by omega) (by decide) dX6_layWant_45 (fun H locs hw => ?_)
        have hw : g_W D A s [(o, .inr (6, [u0, u1, u2, u3, .int (nI nw), u5, u6, u7, u8, u9, u10, u11, u12, u13, u14, u15, u16, u17, u18, u19, u20, u21, u22, u23, u24, u25, u26, .ref wa, u28, u29, u30, u31, u32, u33, u34, u35])), (pp, .inl (E 0, 29, .inl (pgF S))), (wa, .inl (E 0, 3, .inl (upd (cpI (cmF (sW S) nw (sK S)) g i) i ((pgF S) ((11 + (3 * ((sK S) % nw))) + i)))))] H locs := hw
        refine lv_iinc (v := nI (i + 1)) (lv' := [(5, .int (nI (i + 1))), (0, .ref o), (1, .ref pp), (2, .int x), (3, .int y), (4, .int z)]) hx hb dX6_layWant_46 hl (k := 5) rfl (n_inc1 rfl) (by decide) rfl (fun ls hl => ?_)
        refine lv_goto (tgt := 3) hx hb dX6_layWant_49 (by decide) ?_
        have hw : g_W D A s [(o, .inr (6, [u0, u1, u2, u3, .int (nI nw), u5, u6, u7, u8, u9, u10, u11, u12, u13, u14, u15, u16, u17, u18, u19, u20, u21, u22, u23, u24, u25, u26, .ref wa, u28, u29, u30, u31, u32, u33, u34, u35])), (pp, .inl (E 0, 29, .inl (pgF S))), (wa, .inl (E 0, 3, .inl (cpI (cmF (sW S) nw (sK S)) g (i + 1))))] H locs := by
          have e2 : (upd (cpI (cmF (sW S) nw (sK S)) g i) i ((pgF S) ((11 + (3 * ((sK S) % nw))) + i))) = (cpI (cmF (sW S) nw (sK S)) g (i + 1)) := by exact cpI_s g (cm_at S hn0)
          rw [e2] at hw
          exact hw
        exact ih (i + 1) (by omega)   _ _ _ hw (lv_sub hl [1, 2, 3, 4, 5, 0] rfl)
      · skip
        have hn0 : nw = 0 := (nI_eq (by omega) (by decide)).mp c_19
        refine lv_iconst (v := 0) hx hb dX6_layWant_22 (by decide) ?_
        refine lv_goto (tgt := 45) hx hb dX6_layWant_23 (by decide) ?_
        refine g_ist hc hw 2 i rfl rfl (by omega) (by decide) dX6_layWant_45 (fun H locs hw => ?_)
        have hw : g_W D A s [(o, .inr (6, [u0, u1, u2, u3, .int (nI nw), u5, u6, u7, u8, u9, u10, u11, u12, u13, u14, u15, u16, u17, u18, u19, u20, u21, u22, u23, u24, u25, u26, .ref wa, u28, u29, u30, u31, u32, u33, u34, u35])), (pp, .inl (E 0, 29, .inl (pgF S))), (wa, .inl (E 0, 3, .inl (upd (cpI (cmF (sW S) nw (sK S)) g i) i 0)))] H locs := hw
        refine lv_iinc (v := nI (i + 1)) (lv' := [(5, .int (nI (i + 1))), (0, .ref o), (1, .ref pp), (2, .int x), (3, .int y), (4, .int z)]) hx hb dX6_layWant_46 hl (k := 5) rfl (n_inc1 rfl) (by decide) rfl (fun ls hl => ?_)
        refine lv_goto (tgt := 3) hx hb dX6_layWant_49 (by decide) ?_
        have hw : g_W D A s [(o, .inr (6, [u0, u1, u2, u3, .int (nI nw), u5, u6, u7, u8, u9, u10, u11, u12, u13, u14, u15, u16, u17, u18, u19, u20, u21, u22, u23, u24, u25, u26, .ref wa, u28, u29, u30, u31, u32, u33, u34, u35])), (pp, .inl (E 0, 29, .inl (pgF S))), (wa, .inl (E 0, 3, .inl (cpI (cmF (sW S) nw (sK S)) g (i + 1))))] H locs := by
          have e2 : (upd (cpI (cmF (sW S) nw (sK S)) g i) i 0) = (cpI (cmF (sW S) nw (sK S)) g (i + 1)) := by exact cpI_s g (by rw [hn0]; exact cm_0 _ _ _)
          rw [e2] at hw
          exact hw
        exact ih (i + 1) (by omega)   _ _ _ hw (lv_sub hl [1, 2, 3, 4, 5, 0] rfl)
  have hw : g_W D A s [(o, .inr (6, [u0, u1, u2, u3, .int (nI nw), u5, u6, u7, u8, u9, u10, u11, u12, u13, u14, u15, u16, u17, u18, u19, u20, u21, u22, u23, u24, u25, u26, .ref wa, u28, u29, u30, u31, u32, u33, u34, u35])), (pp, .inl (E 0, 29, .inl (pgF S))), (wa, .inl (E 0, 3, .inl (cpI (cmF (sW S) nw (sK S)) g 0)))] H locs := by
    have e2 : g = (cpI (cmF (sW S) nw (sK S)) g 0) := by exact cpI_0 _ g
    rw [e2] at hw
    exact hw
  exact J3 3 0 (by omega)   _ _ _ hw (lv_sub hl [1, 2, 3, 4, 5, 0] rfl)

theorem dX6_theDead_0 : decode cX6_theDead 0 = .ok (.bipush (-9), 2) := by decide +kernel
theorem dX6_theDead_2 : decode cX6_theDead 2 = .ok (.istore_n 1, 1) := by decide +kernel
theorem dX6_theDead_3 : decode cX6_theDead 3 = .ok (.iconst 0, 1) := by decide +kernel
theorem dX6_theDead_4 : decode cX6_theDead 4 = .ok (.istore_n 2, 1) := by decide +kernel
theorem dX6_theDead_5 : decode cX6_theDead 5 = .ok (.iload_n 2, 1) := by decide +kernel
theorem dX6_theDead_6 : decode cX6_theDead 6 = .ok (.iconst 4, 1) := by decide +kernel
theorem dX6_theDead_7 : decode cX6_theDead 7 = .ok (.if_icmp .ge 25, 3) := by decide +kernel
theorem dX6_theDead_10 : decode cX6_theDead 10 = .ok (.aload_n 0, 1) := by decide +kernel
theorem dX6_theDead_11 : decode cX6_theDead 11 = .ok (.iconst 0, 1) := by decide +kernel
theorem dX6_theDead_12 : decode cX6_theDead 12 = .ok (.iaload, 1) := by decide +kernel
theorem dX6_theDead_13 : decode cX6_theDead 13 = .ok (.iload_n 2, 1) := by decide +kernel
theorem dX6_theDead_14 : decode cX6_theDead 14 = .ok (.invokestatic 139, 3) := by decide +kernel
theorem dX6_theDead_17 : decode cX6_theDead 17 = .ok (.ifCond .eq 7, 3) := by decide +kernel
theorem dX6_theDead_20 : decode cX6_theDead 20 = .ok (.iload_n 2, 1) := by decide +kernel
theorem dX6_theDead_21 : decode cX6_theDead 21 = .ok (.goto 4, 3) := by decide +kernel
theorem dX6_theDead_24 : decode cX6_theDead 24 = .ok (.iload_n 1, 1) := by decide +kernel
theorem dX6_theDead_25 : decode cX6_theDead 25 = .ok (.istore_n 1, 1) := by decide +kernel
theorem dX6_theDead_26 : decode cX6_theDead 26 = .ok (.iinc 2 1, 3) := by decide +kernel
theorem dX6_theDead_29 : decode cX6_theDead 29 = .ok (.goto (-24), 3) := by decide +kernel
theorem dX6_theDead_32 : decode cX6_theDead 32 = .ok (.iload_n 1, 1) := by decide +kernel
theorem dX6_theDead_33 : decode cX6_theDead 33 = .ok (.ireturn, 1) := by decide +kernel
set_option maxRecDepth 20000 in
theorem ggX6_theDead_X6_has : GoodIn wsX6_theDead wsX6_has := goodIn_r _ [4] rfl (by decide +kernel)
set_option maxRecDepth 20000 in
theorem gX6_theDead_X6_has : GoodIn wsX6_theDead (va_wsS RX6 139 yX6_has wsX6_has) := goodIn_app (goodIn_of _ (by decide +kernel)) ggX6_theDead_X6_has
set_option maxRecDepth 100000 in
set_option maxHeartbeats 4000000 in
theorem m_X6_theDead {l : Launch} {D : va_G} {E : Nat → ClassId} {T : Nat → Nat} (pp : Nat) (S : TS) (hd : sD S < 16) : g_M l D E T yX6_theDead wsX6_theDead 1 21 [.ref pp] [(pp, .inl (E 0, 29, .inl (pgF S)))] [(pp, .inl (E 0, 29, .inl (pgF S)))] (some (.int (tdP (sD S) 4))) := by
  refine g_M.of (cc := cX6_theDead) (nL := 3) (ret := (some .int)) (own := RX6) (lv := [(0, .ref pp)]) (by decide) rfl rfl (Nat.le_of_ble_eq_true rfl) rfl ?_
  intro p e R s m args below meth c A Q H locs ls hR hQ hc hr hw hl
  have hx := hc.1
  have hb := hc.2.1
  have hts := hc.2.2.2.1
  have hown := hc.2.2.2.2.1
  refine lv_bipush (v := (-9)) hx hb dX6_theDead_0 (by decide) ?_
  refine lv_istore_n (lv' := [(1, .int (-9)), (0, .ref pp)]) hx hb dX6_theDead_2 rfl hl (by decide) rfl (fun ls hl => ?_)
  refine lv_iconst (v := 0) hx hb dX6_theDead_3 (by decide) ?_
  refine lv_istore_n (lv' := [(2, .int 0), (1, .int (-9)), (0, .ref pp)]) hx hb dX6_theDead_4 rfl hl (by decide) rfl (fun ls hl => ?_)
  have J5 : ∀ (k9 : Nat) (i : Nat), i + k9 = 4 → ∀ (H : Heap) (locs : List Loc) (ls : Array Slot), g_W D A s [(pp, .inl (E 0, 29, .inl (pgF S)))] H locs → lv_has ls 3 [(0, .ref pp), (1, .int (tdP (sD S) i)), (2, .int (nI i))] → W p l e R s m args below meth c H locs 0 0 Q (F0 m 5 ls []) := by
    intro k9
    induction k9 with
    | zero =>
      intro i h9   H locs ls hw hl
      have h9 : i = 4 := h9
      subst h9
      refine lv_iload_n hx hb dX6_theDead_5 rfl (lv_at hl 2 rfl) ?_
      refine lv_iconst (v := 4) hx hb dX6_theDead_6 (by decide) ?_
      refine lv_icmp_ge (tgt := 32) hx hb dX6_theDead_7 (by decide) (fun c_7 => ?_) (fun c_7 => absurd (by first | exact Int32.le_refl _ | decide) c_7)
      refine lv_iload_n hx hb dX6_theDead_32 rfl (lv_at hl 1 rfl) ?_
      exact g_iret hQ hc hw hr rfl rfl dX6_theDead_33
    | succ k9 ih =>
      intro i h9   H locs ls hw hl
      have h9b : i < 4 := by omega
      refine lv_iload_n hx hb dX6_theDead_5 rfl (lv_at hl 2 rfl) ?_
      refine lv_iconst (v := 4) hx hb dX6_theDead_6 (by decide) ?_
      refine lv_icmp_ge (tgt := 32) hx hb dX6_theDead_7 (by decide) (fun c_7 => absurd c_7 (nI_ge h9b (by decide))) (fun c_7 => ?_)
      refine lv_aload_n hx hb dX6_theDead_10 rfl (lv_at hl 0 rfl) ?_
      refine lv_iconst (v := 0) hx hb dX6_theDead_11 (by decide) ?_
      refine g_ild hc hw 0 0 rfl rfl (by omega) (by decide) dX6_theDead_12 ?_
      refine W.eq (congrArg (fun z => F0 m 13 ls (.int z :: [])) (show ((pgF S) 0 : Int32) = nI (sD S) from rfl)) ?_
      refine lv_iload_n hx hb dX6_theDead_13 rfl (lv_at hl 2 rfl) ?_
      refine g_cS (As := [.int (nI (sD S)), .int (nI i)]) (n := 2) (rest := []) (wc := []) (w1 := []) (bytes := cX6_has) (maxL := 2) (ret := (some .boolean)) hc hw hl.1 (m_X6_has (l := l) (D := D) (E := E) (T := T) (sD S) i (by first | assumption | omega | decide) (by first | assumption | omega | decide)) gX6_theDead_X6_has rfl (by decide +kernel) (by rw [hR]; exact ⟨Nat.le_of_ble_eq_true rfl, Nat.le_of_ble_eq_true rfl⟩) [] (by decide) rfl [] rfl rfl rfl rfl (Nat.le_of_ble_eq_true rfl) dX6_theDead_14 ⟨Nat.zero_le _, Nat.zero_le _⟩ (fun H locs hw => ?_)
      have hw : g_W D A s [(pp, .inl (E 0, 29, .inl (pgF S)))] H locs := hw
      refine lv_if_eq (tgt := 24) hx hb dX6_theDead_17 (by decide) (fun c_17 => ?_) (fun c_17 => ?_)
      · skip
        have k_17 := b2i_eq c_17
        refine lv_iload_n hx hb dX6_theDead_24 rfl (lv_at hl 1 rfl) ?_
        refine lv_istore_n (lv' := [(1, .int (tdP (sD S) i)), (0, .ref pp), (2, .int (nI i))]) hx hb dX6_theDead_25 rfl hl (by decide) rfl (fun ls hl => ?_)
        refine lv_iinc (v := nI (i + 1)) (lv' := [(2, .int (nI (i + 1))), (1, .int (tdP (sD S) i)), (0, .ref pp)]) hx hb dX6_theDead_26 hl (k := 2) rfl (n_inc1 rfl) (by decide) rfl (fun ls hl => ?_)
        refine lv_goto (tgt := 5) hx hb dX6_theDead_29 (by decide) ?_
        have hl := lv_conv hl 1 rfl (v' := (.int (tdP (sD S) (i + 1)))) (by exact congrArg Value.int (if_neg (by rw [k_17]; decide)).symm)
        have hl : lv_has ls 3 [(2, .int (nI (i + 1))), (1, .int (tdP (sD S) (i + 1))), (0, .ref pp)] := hl
        exact ih (i + 1) (by omega)   _ _ _ hw (lv_sub hl [2, 1, 0] rfl)
      · skip
        have k_17 := b2i_ne c_17
        refine lv_iload_n hx hb dX6_theDead_20 rfl (lv_at hl 2 rfl) ?_
        refine lv_goto (tgt := 25) hx hb dX6_theDead_21 (by decide) ?_
        refine lv_istore_n (lv' := [(1, .int (nI i)), (0, .ref pp), (2, .int (nI i))]) hx hb dX6_theDead_25 rfl hl (by decide) rfl (fun ls hl => ?_)
        refine lv_iinc (v := nI (i + 1)) (lv' := [(2, .int (nI (i + 1))), (1, .int (nI i)), (0, .ref pp)]) hx hb dX6_theDead_26 hl (k := 2) rfl (n_inc1 rfl) (by decide) rfl (fun ls hl => ?_)
        refine lv_goto (tgt := 5) hx hb dX6_theDead_29 (by decide) ?_
        have hl := lv_conv hl 1 rfl (v' := (.int (tdP (sD S) (i + 1)))) (by exact congrArg Value.int (if_pos k_17).symm)
        have hl : lv_has ls 3 [(2, .int (nI (i + 1))), (1, .int (tdP (sD S) (i + 1))), (0, .ref pp)] := hl
        exact ih (i + 1) (by omega)   _ _ _ hw (lv_sub hl [2, 1, 0] rfl)
  exact J5 4 0 (by omega)   _ _ _ hw (lv_sub hl [2, 1, 0] rfl)

theorem dX6_axisOf_0 : decode cX6_axisOf 0 = .ok (.aload_n 0, 1) := by decide +kernel
theorem dX6_axisOf_1 : decode cX6_axisOf 1 = .ok (.getfield 13, 3) := by decide +kernel
theorem dX6_axisOf_4 : decode cX6_axisOf 4 = .ok (.iconst 3, 1) := by decide +kernel
theorem dX6_axisOf_5 : decode cX6_axisOf 5 = .ok (.iload_n 1, 1) := by decide +kernel
theorem dX6_axisOf_6 : decode cX6_axisOf 6 = .ok (.imul, 1) := by decide +kernel
theorem dX6_axisOf_7 : decode cX6_axisOf 7 = .ok (.iload_n 3, 1) := by decide +kernel
theorem dX6_axisOf_8 : decode cX6_axisOf 8 = .ok (.iadd, 1) := by decide +kernel
theorem dX6_axisOf_9 : decode cX6_axisOf 9 = .ok (.iaload, 1) := by decide +kernel
theorem dX6_axisOf_10 : decode cX6_axisOf 10 = .ok (.iload_n 2, 1) := by decide +kernel
theorem dX6_axisOf_11 : decode cX6_axisOf 11 = .ok (.bipush (-9), 2) := by decide +kernel
theorem dX6_axisOf_13 : decode cX6_axisOf 13 = .ok (.if_icmp .ne 7, 3) := by decide +kernel
theorem dX6_axisOf_16 : decode cX6_axisOf 16 = .ok (.iconst 0, 1) := by decide +kernel
theorem dX6_axisOf_17 : decode cX6_axisOf 17 = .ok (.goto 13, 3) := by decide +kernel
theorem dX6_axisOf_20 : decode cX6_axisOf 20 = .ok (.aload_n 0, 1) := by decide +kernel
theorem dX6_axisOf_21 : decode cX6_axisOf 21 = .ok (.getfield 13, 3) := by decide +kernel
theorem dX6_axisOf_24 : decode cX6_axisOf 24 = .ok (.iconst 3, 1) := by decide +kernel
theorem dX6_axisOf_25 : decode cX6_axisOf 25 = .ok (.iload_n 2, 1) := by decide +kernel
theorem dX6_axisOf_26 : decode cX6_axisOf 26 = .ok (.imul, 1) := by decide +kernel
theorem dX6_axisOf_27 : decode cX6_axisOf 27 = .ok (.iload_n 3, 1) := by decide +kernel
theorem dX6_axisOf_28 : decode cX6_axisOf 28 = .ok (.iadd, 1) := by decide +kernel
theorem dX6_axisOf_29 : decode cX6_axisOf 29 = .ok (.iaload, 1) := by decide +kernel
theorem dX6_axisOf_30 : decode cX6_axisOf 30 = .ok (.isub, 1) := by decide +kernel
theorem dX6_axisOf_31 : decode cX6_axisOf 31 = .ok (.ireturn, 1) := by decide +kernel
theorem inX6_axisOf_X6 : ∀ w ∈ u_ws RX6 TX6 36, w ∈ wsX6_axisOf := fun w h => List.mem_cons_of_mem _ (List.mem_append_right _ h)
set_option maxRecDepth 100000 in
set_option maxHeartbeats 4000000 in
theorem m_X6_axisOf {l : Launch} {D : va_G} {E : Nat → ClassId} {T : Nat → Nat} (o : Nat) (xa : Nat) (u0 : Value) (u1 : Value) (u2 : Value) (u4 : Value) (u5 : Value) (u6 : Value) (u7 : Value) (u8 : Value) (u9 : Value) (u10 : Value) (u11 : Value) (u12 : Value) (u13 : Value) (u14 : Value) (u15 : Value) (u16 : Value) (u17 : Value) (u18 : Value) (u19 : Value) (u20 : Value) (u21 : Value) (u22 : Value) (u23 : Value) (u24 : Value) (u25 : Value) (u26 : Value) (u27 : Value) (u28 : Value) (u29 : Value) (u30 : Value) (u31 : Value) (u32 : Value) (u33 : Value) (u34 : Value) (u35 : Value) (dd : Int32) (i : Nat) (k : Nat) (hdd : dd = -9 ∨ ∃ mm, mm < 4 ∧ dd = nI mm) (hi : i < 4) (hk : k < 3) : g_M l D E T yX6_axisOf wsX6_axisOf 0 0 [.ref o, .int (nI i), .int dd, .int (nI k)] [(o, .inr (6, [u0, u1, u2, .ref xa, u4, u5, u6, u7, u8, u9, u10, u11, u12, u13, u14, u15, u16, u17, u18, u19, u20, u21, u22, u23, u24, u25, u26, u27, u28, u29, u30, u31, u32, u33, u34, u35])), (xa, .inl (E 0, 12, .inl (g_tv 0)))] [(o, .inr (6, [u0, u1, u2, .ref xa, u4, u5, u6, u7, u8, u9, u10, u11, u12, u13, u14, u15, u16, u17, u18, u19, u20, u21, u22, u23, u24, u25, u26, u27, u28, u29, u30, u31, u32, u33, u34, u35])), (xa, .inl (E 0, 12, .inl (g_tv 0)))] (some (.int (axF dd i k))) := by
  refine g_M.of (cc := cX6_axisOf) (nL := 4) (ret := (some .int)) (own := RX6) (lv := [(0, .ref o), (1, .int (nI i)), (2, .int dd), (3, .int (nI k))]) (by decide) rfl rfl (Nat.le_of_ble_eq_true rfl) rfl ?_
  intro p e R s m args below meth c A Q H locs ls hR hQ hc hr hw hl
  have hx := hc.1
  have hb := hc.2.1
  have hts := hc.2.2.2.1
  have hown := hc.2.2.2.2.1
  refine lv_aload_n hx hb dX6_axisOf_0 rfl (lv_at hl 0 rfl) ?_
  refine g_get (TT := TX6) hc hw inX6_axisOf_X6 0 3 1 rfl rfl (by decide) rfl rfl dX6_axisOf_1 ?_
  refine lv_iconst (v := 3) hx hb dX6_axisOf_4 (by decide) ?_
  refine lv_iload_n hx hb dX6_axisOf_5 rfl (lv_at hl 1 rfl) ?_
  refine lv_imul hx hb dX6_axisOf_6 ?_
  refine lv_iload_n hx hb dX6_axisOf_7 rfl (lv_at hl 3 rfl) ?_
  refine lv_iadd hx hb dX6_axisOf_8 ?_
  refine g_ild hc hw 1 ((3 * i) + k) rfl (n_add (n_mul rfl rfl) rfl) (by omega) (by decide) dX6_axisOf_9 ?_
  refine lv_iload_n hx hb dX6_axisOf_10 rfl (lv_at hl 2 rfl) ?_
  refine lv_bipush (v := (-9)) hx hb dX6_axisOf_11 (by decide) ?_
  refine lv_icmp_ne (tgt := 20) hx hb dX6_axisOf_13 (by decide) (fun c_13 => ?_) (fun c_13 => ?_)
  · skip
    obtain ⟨mm, hmm, hdm⟩ := hdd.resolve_left c_13
    refine lv_aload_n hx hb dX6_axisOf_20 rfl (lv_at hl 0 rfl) ?_
    refine g_get (TT := TX6) hc hw inX6_axisOf_X6 0 3 1 rfl rfl (by decide) rfl rfl dX6_axisOf_21 ?_
    refine lv_iconst (v := 3) hx hb dX6_axisOf_24 (by decide) ?_
    refine lv_iload_n hx hb dX6_axisOf_25 rfl (lv_at hl 2 rfl) ?_
    refine lv_imul hx hb dX6_axisOf_26 ?_
    refine lv_iload_n hx hb dX6_axisOf_27 rfl (lv_at hl 3 rfl) ?_
    refine lv_iadd hx hb dX6_axisOf_28 ?_
    refine g_ild hc hw 1 (3 * mm + k) rfl (n_add (n_mul rfl hdm) rfl) (by omega) (by decide) dX6_axisOf_29 ?_
    refine lv_isub hx hb dX6_axisOf_30 ?_
    exact g_iret hQ hc hw hr (by exact congrArg (fun z => some (Value.int z)) (ax_m hdm hmm c_13).symm) rfl dX6_axisOf_31
  · skip
    refine lv_iconst (v := 0) hx hb dX6_axisOf_16 (by decide) ?_
    refine lv_goto (tgt := 30) hx hb dX6_axisOf_17 (by decide) ?_
    refine lv_isub hx hb dX6_axisOf_30 ?_
    exact g_iret hQ hc hw hr (by exact congrArg (fun z => some (Value.int z)) (ax_9 c_13).symm) rfl dX6_axisOf_31

theorem dX6_turnOf_0 : decode cX6_turnOf 0 = .ok (.iconst 0, 1) := by decide +kernel
theorem dX6_turnOf_1 : decode cX6_turnOf 1 = .ok (.istore_n 3, 1) := by decide +kernel
theorem dX6_turnOf_2 : decode cX6_turnOf 2 = .ok (.iconst 0, 1) := by decide +kernel
theorem dX6_turnOf_3 : decode cX6_turnOf 3 = .ok (.istore 4, 2) := by decide +kernel
theorem dX6_turnOf_5 : decode cX6_turnOf 5 = .ok (.iload 4, 2) := by decide +kernel
theorem dX6_turnOf_7 : decode cX6_turnOf 7 = .ok (.iconst 3, 1) := by decide +kernel
theorem dX6_turnOf_8 : decode cX6_turnOf 8 = .ok (.if_icmp .ge 28, 3) := by decide +kernel
theorem dX6_turnOf_11 : decode cX6_turnOf 11 = .ok (.iload_n 3, 1) := by decide +kernel
theorem dX6_turnOf_12 : decode cX6_turnOf 12 = .ok (.aload_n 0, 1) := by decide +kernel
theorem dX6_turnOf_13 : decode cX6_turnOf 13 = .ok (.iload_n 1, 1) := by decide +kernel
theorem dX6_turnOf_14 : decode cX6_turnOf 14 = .ok (.iload_n 2, 1) := by decide +kernel
theorem dX6_turnOf_15 : decode cX6_turnOf 15 = .ok (.iload 4, 2) := by decide +kernel
theorem dX6_turnOf_17 : decode cX6_turnOf 17 = .ok (.invokevirtual 142, 3) := by decide +kernel
theorem dX6_turnOf_20 : decode cX6_turnOf 20 = .ok (.aload_n 0, 1) := by decide +kernel
theorem dX6_turnOf_21 : decode cX6_turnOf 21 = .ok (.getfield 66, 3) := by decide +kernel
theorem dX6_turnOf_24 : decode cX6_turnOf 24 = .ok (.iload 4, 2) := by decide +kernel
theorem dX6_turnOf_26 : decode cX6_turnOf 26 = .ok (.iaload, 1) := by decide +kernel
theorem dX6_turnOf_27 : decode cX6_turnOf 27 = .ok (.imul, 1) := by decide +kernel
theorem dX6_turnOf_28 : decode cX6_turnOf 28 = .ok (.iadd, 1) := by decide +kernel
theorem dX6_turnOf_29 : decode cX6_turnOf 29 = .ok (.istore_n 3, 1) := by decide +kernel
theorem dX6_turnOf_30 : decode cX6_turnOf 30 = .ok (.iinc 4 1, 3) := by decide +kernel
theorem dX6_turnOf_33 : decode cX6_turnOf 33 = .ok (.goto (-28), 3) := by decide +kernel
theorem dX6_turnOf_36 : decode cX6_turnOf 36 = .ok (.iload_n 3, 1) := by decide +kernel
theorem dX6_turnOf_37 : decode cX6_turnOf 37 = .ok (.ireturn, 1) := by decide +kernel
set_option maxRecDepth 20000 in
theorem ggX6_turnOf_X6_axisOf : GoodIn wsX6_turnOf wsX6_axisOf := goodIn_r _ [6, 7, 8, 9, 10, 11, 12, 13, 14, 15, 16, 17, 18, 19, 20, 21, 22, 23, 24, 25, 26, 27, 28, 29, 30, 31, 32, 33, 34, 35, 36, 37, 38, 39, 40, 41, 42, 43] rfl (by decide +kernel)
set_option maxRecDepth 20000 in
theorem gX6_turnOf_X6_axisOf : GoodIn wsX6_turnOf (wsV RX6 142 RX6 yX6_axisOf wsX6_axisOf) := goodIn_app (goodIn_of _ (by decide +kernel)) ggX6_turnOf_X6_axisOf
theorem inX6_turnOf_X6 : ∀ w ∈ u_ws RX6 TX6 36, w ∈ wsX6_turnOf := fun w h => List.mem_cons_of_mem _ (List.mem_append_right _ h)
set_option maxRecDepth 100000 in
set_option maxHeartbeats 4000000 in
theorem m_X6_turnOf {l : Launch} {D : va_G} {E : Nat → ClassId} {T : Nat → Nat} (o : Nat) (xa : Nat) (wa : Nat) (u0 : Value) (u1 : Value) (u2 : Value) (u4 : Value) (u5 : Value) (u6 : Value) (u7 : Value) (u8 : Value) (u9 : Value) (u10 : Value) (u11 : Value) (u12 : Value) (u13 : Value) (u14 : Value) (u15 : Value) (u16 : Value) (u17 : Value) (u18 : Value) (u19 : Value) (u20 : Value) (u21 : Value) (u22 : Value) (u23 : Value) (u24 : Value) (u25 : Value) (u26 : Value) (u28 : Value) (u29 : Value) (u30 : Value) (u31 : Value) (u32 : Value) (u33 : Value) (u34 : Value) (u35 : Value) (dd : Int32) (i : Nat) (wn : Nat → Int32) (hdd : dd = -9 ∨ ∃ mm, mm < 4 ∧ dd = nI mm) (hi : i < 4) : g_M l D E T yX6_turnOf wsX6_turnOf 1 23 [.ref o, .int (nI i), .int dd] [(o, .inr (6, [u0, u1, u2, .ref xa, u4, u5, u6, u7, u8, u9, u10, u11, u12, u13, u14, u15, u16, u17, u18, u19, u20, u21, u22, u23, u24, u25, u26, .ref wa, u28, u29, u30, u31, u32, u33, u34, u35])), (xa, .inl (E 0, 12, .inl (g_tv 0))), (wa, .inl (E 0, 3, .inl wn))] [(o, .inr (6, [u0, u1, u2, .ref xa, u4, u5, u6, u7, u8, u9, u10, u11, u12, u13, u14, u15, u16, u17, u18, u19, u20, u21, u22, u23, u24, u25, u26, .ref wa, u28, u29, u30, u31, u32, u33, u34, u35])), (xa, .inl (E 0, 12, .inl (g_tv 0))), (wa, .inl (E 0, 3, .inl wn))] (some (.int (0 + axF dd i 0 * wn 0 + axF dd i 1 * wn 1 + axF dd i 2 * wn 2))) := by
  refine g_M.of (cc := cX6_turnOf) (nL := 5) (ret := (some .int)) (own := RX6) (lv := [(0, .ref o), (1, .int (nI i)), (2, .int dd)]) (by decide) rfl rfl (Nat.le_of_ble_eq_true rfl) rfl ?_
  intro p e R s m args below meth c A Q H locs ls hR hQ hc hr hw hl
  have hx := hc.1
  have hb := hc.2.1
  have hts := hc.2.2.2.1
  have hown := hc.2.2.2.2.1
  refine lv_iconst (v := 0) hx hb dX6_turnOf_0 (by decide) ?_
  refine lv_istore_n (lv' := [(3, .int 0), (0, .ref o), (1, .int (nI i)), (2, .int dd)]) hx hb dX6_turnOf_1 rfl hl (by decide) rfl (fun ls hl => ?_)
  refine lv_iconst (v := 0) hx hb dX6_turnOf_2 (by decide) ?_
  refine lv_istore (lv' := [(4, .int 0), (3, .int 0), (0, .ref o), (1, .int (nI i)), (2, .int dd)]) hx hb dX6_turnOf_3 hl (by decide) rfl (fun ls hl => ?_)
  refine lv_iload hx hb dX6_turnOf_5 (lv_at hl 0 rfl) ?_
  refine lv_iconst (v := 3) hx hb dX6_turnOf_7 (by decide) ?_
  refine lv_icmp_ge (tgt := 36) hx hb dX6_turnOf_8 (by decide) (fun c_8 => absurd c_8 (by decide)) (fun c_8 => ?_)
  refine lv_iload_n hx hb dX6_turnOf_11 rfl (lv_at hl 1 rfl) ?_
  refine lv_aload_n hx hb dX6_turnOf_12 rfl (lv_at hl 2 rfl) ?_
  refine lv_iload_n hx hb dX6_turnOf_13 rfl (lv_at hl 3 rfl) ?_
  refine lv_iload_n hx hb dX6_turnOf_14 rfl (lv_at hl 4 rfl) ?_
  refine lv_iload hx hb dX6_turnOf_15 (lv_at hl 0 rfl) ?_
  refine g_cV (As := [.int (nI i), .int dd, .int 0]) (n := 3) (rest := [.int 0]) (wc := [(o, .inr (6, [u0, u1, u2, .ref xa, u4, u5, u6, u7, u8, u9, u10, u11, u12, u13, u14, u15, u16, u17, u18, u19, u20, u21, u22, u23, u24, u25, u26, .ref wa, u28, u29, u30, u31, u32, u33, u34, u35])), (xa, .inl (E 0, 12, .inl (g_tv 0)))]) (w1 := [(o, .inr (6, [u0, u1, u2, .ref xa, u4, u5, u6, u7, u8, u9, u10, u11, u12, u13, u14, u15, u16, u17, u18, u19, u20, u21, u22, u23, u24, u25, u26, .ref wa, u28, u29, u30, u31, u32, u33, u34, u35])), (xa, .inl (E 0, 12, .inl (g_tv 0)))]) (bytes := cX6_axisOf) (maxL := 4) (ret := (some .int)) hc hw hl.1 (m_X6_axisOf (l := l) (D := D) (E := E) (T := T) o xa u0 u1 u2 u4 u5 u6 u7 u8 u9 u10 u11 u12 u13 u14 u15 u16 u17 u18 u19 u20 u21 u22 u23 u24 u25 u26 (.ref wa) u28 u29 u30 u31 u32 u33 u34 u35 dd i 0 (by first | assumption | omega | decide) (by first | assumption | omega | decide) (by first | assumption | omega | decide)) gX6_turnOf_X6_axisOf rfl (by decide +kernel) (by rw [hR]; exact ⟨Nat.le_of_ble_eq_true rfl, Nat.le_of_ble_eq_true rfl⟩) [0, 1] 0 6 rfl rfl (by decide) rfl [o, xa] rfl rfl rfl rfl (Nat.le_of_ble_eq_true rfl) dX6_turnOf_17 ⟨Nat.zero_le _, Nat.zero_le _⟩ (fun H locs hw => ?_)
  have hw : g_W D A s [(o, .inr (6, [u0, u1, u2, .ref xa, u4, u5, u6, u7, u8, u9, u10, u11, u12, u13, u14, u15, u16, u17, u18, u19, u20, u21, u22, u23, u24, u25, u26, .ref wa, u28, u29, u30, u31, u32, u33, u34, u35])), (xa, .inl (E 0, 12, .inl (g_tv 0))), (wa, .inl (E 0, 3, .inl wn))] H locs := hw
  refine lv_aload_n hx hb dX6_turnOf_20 rfl (lv_at hl 2 rfl) ?_
  refine g_get (TT := TX6) hc hw inX6_turnOf_X6 0 27 1 rfl rfl (by decide) rfl rfl dX6_turnOf_21 ?_
  refine lv_iload hx hb dX6_turnOf_24 (lv_at hl 0 rfl) ?_
  refine g_ild hc hw 2 0 rfl rfl (by omega) (by decide) dX6_turnOf_26 ?_
  refine lv_imul hx hb dX6_turnOf_27 ?_
  refine lv_iadd hx hb dX6_turnOf_28 ?_
  refine lv_istore_n (lv' := [(3, .int (0 + ((axF dd i 0) * (wn 0)))), (4, .int 0), (0, .ref o), (1, .int (nI i)), (2, .int dd)]) hx hb dX6_turnOf_29 rfl hl (by decide) rfl (fun ls hl => ?_)
  refine lv_iinc (v := 1) (lv' := [(4, .int 1), (3, .int (0 + ((axF dd i 0) * (wn 0)))), (0, .ref o), (1, .int (nI i)), (2, .int dd)]) hx hb dX6_turnOf_30 hl (k := 1) rfl (by decide) (by decide) rfl (fun ls hl => ?_)
  refine lv_goto (tgt := 5) hx hb dX6_turnOf_33 (by decide) ?_
  refine lv_iload hx hb dX6_turnOf_5 (lv_at hl 0 rfl) ?_
  refine lv_iconst (v := 3) hx hb dX6_turnOf_7 (by decide) ?_
  refine lv_icmp_ge (tgt := 36) hx hb dX6_turnOf_8 (by decide) (fun c_8 => absurd c_8 (by decide)) (fun c_8 => ?_)
  refine lv_iload_n hx hb dX6_turnOf_11 rfl (lv_at hl 1 rfl) ?_
  refine lv_aload_n hx hb dX6_turnOf_12 rfl (lv_at hl 2 rfl) ?_
  refine lv_iload_n hx hb dX6_turnOf_13 rfl (lv_at hl 3 rfl) ?_
  refine lv_iload_n hx hb dX6_turnOf_14 rfl (lv_at hl 4 rfl) ?_
  refine lv_iload hx hb dX6_turnOf_15 (lv_at hl 0 rfl) ?_
  refine g_cV (As := [.int (nI i), .int dd, .int 1]) (n := 3) (rest := [.int (0 + ((axF dd i 0) * (wn 0)))]) (wc := [(o, .inr (6, [u0, u1, u2, .ref xa, u4, u5, u6, u7, u8, u9, u10, u11, u12, u13, u14, u15, u16, u17, u18, u19, u20, u21, u22, u23, u24, u25, u26, .ref wa, u28, u29, u30, u31, u32, u33, u34, u35])), (xa, .inl (E 0, 12, .inl (g_tv 0)))]) (w1 := [(o, .inr (6, [u0, u1, u2, .ref xa, u4, u5, u6, u7, u8, u9, u10, u11, u12, u13, u14, u15, u16, u17, u18, u19, u20, u21, u22, u23, u24, u25, u26, .ref wa, u28, u29, u30, u31, u32, u33, u34, u35])), (xa, .inl (E 0, 12, .inl (g_tv 0)))]) (bytes := cX6_axisOf) (maxL := 4) (ret := (some .int)) hc hw hl.1 (m_X6_axisOf (l := l) (D := D) (E := E) (T := T) o xa u0 u1 u2 u4 u5 u6 u7 u8 u9 u10 u11 u12 u13 u14 u15 u16 u17 u18 u19 u20 u21 u22 u23 u24 u25 u26 (.ref wa) u28 u29 u30 u31 u32 u33 u34 u35 dd i 1 (by first | assumption | omega | decide) (by first | assumption | omega | decide) (by first | assumption | omega | decide)) gX6_turnOf_X6_axisOf rfl (by decide +kernel) (by rw [hR]; exact ⟨Nat.le_of_ble_eq_true rfl, Nat.le_of_ble_eq_true rfl⟩) [0, 1] 0 6 rfl rfl (by decide) rfl [o, xa] rfl rfl rfl rfl (Nat.le_of_ble_eq_true rfl) dX6_turnOf_17 ⟨Nat.zero_le _, Nat.zero_le _⟩ (fun H locs hw => ?_)
  have hw : g_W D A s [(o, .inr (6, [u0, u1, u2, .ref xa, u4, u5, u6, u7, u8, u9, u10, u11, u12, u13, u14, u15, u16, u17, u18, u19, u20, u21, u22, u23, u24, u25, u26, .ref wa, u28, u29, u30, u31, u32, u33, u34, u35])), (xa, .inl (E 0, 12, .inl (g_tv 0))), (wa, .inl (E 0, 3, .inl wn))] H locs := hw
  refine lv_aload_n hx hb dX6_turnOf_20 rfl (lv_at hl 2 rfl) ?_
  refine g_get (TT := TX6) hc hw inX6_turnOf_X6 0 27 1 rfl rfl (by decide) rfl rfl dX6_turnOf_21 ?_
  refine lv_iload hx hb dX6_turnOf_24 (lv_at hl 0 rfl) ?_
  refine g_ild hc hw 2 1 rfl rfl (by omega) (by decide) dX6_turnOf_26 ?_
  refine lv_imul hx hb dX6_turnOf_27 ?_
  refine lv_iadd hx hb dX6_turnOf_28 ?_
  refine lv_istore_n (lv' := [(3, .int ((0 + ((axF dd i 0) * (wn 0))) + ((axF dd i 1) * (wn 1)))), (4, .int 1), (0, .ref o), (1, .int (nI i)), (2, .int dd)]) hx hb dX6_turnOf_29 rfl hl (by decide) rfl (fun ls hl => ?_)
  refine lv_iinc (v := 2) (lv' := [(4, .int 2), (3, .int ((0 + ((axF dd i 0) * (wn 0))) + ((axF dd i 1) * (wn 1)))), (0, .ref o), (1, .int (nI i)), (2, .int dd)]) hx hb dX6_turnOf_30 hl (k := 1) rfl (by decide) (by decide) rfl (fun ls hl => ?_)
  refine lv_goto (tgt := 5) hx hb dX6_turnOf_33 (by decide) ?_
  refine lv_iload hx hb dX6_turnOf_5 (lv_at hl 0 rfl) ?_
  refine lv_iconst (v := 3) hx hb dX6_turnOf_7 (by decide) ?_
  refine lv_icmp_ge (tgt := 36) hx hb dX6_turnOf_8 (by decide) (fun c_8 => absurd c_8 (by decide)) (fun c_8 => ?_)
  refine lv_iload_n hx hb dX6_turnOf_11 rfl (lv_at hl 1 rfl) ?_
  refine lv_aload_n hx hb dX6_turnOf_12 rfl (lv_at hl 2 rfl) ?_
  refine lv_iload_n hx hb dX6_turnOf_13 rfl (lv_at hl 3 rfl) ?_
  refine lv_iload_n hx hb dX6_turnOf_14 rfl (lv_at hl 4 rfl) ?_
  refine lv_iload hx hb dX6_turnOf_15 (lv_at hl 0 rfl) ?_
  refine g_cV (As := [.int (nI i), .int dd, .int 2]) (n := 3) (rest := [.int ((0 + ((axF dd i 0) * (wn 0))) + ((axF dd i 1) * (wn 1)))]) (wc := [(o, .inr (6, [u0, u1, u2, .ref xa, u4, u5, u6, u7, u8, u9, u10, u11, u12, u13, u14, u15, u16, u17, u18, u19, u20, u21, u22, u23, u24, u25, u26, .ref wa, u28, u29, u30, u31, u32, u33, u34, u35])), (xa, .inl (E 0, 12, .inl (g_tv 0)))]) (w1 := [(o, .inr (6, [u0, u1, u2, .ref xa, u4, u5, u6, u7, u8, u9, u10, u11, u12, u13, u14, u15, u16, u17, u18, u19, u20, u21, u22, u23, u24, u25, u26, .ref wa, u28, u29, u30, u31, u32, u33, u34, u35])), (xa, .inl (E 0, 12, .inl (g_tv 0)))]) (bytes := cX6_axisOf) (maxL := 4) (ret := (some .int)) hc hw hl.1 (m_X6_axisOf (l := l) (D := D) (E := E) (T := T) o xa u0 u1 u2 u4 u5 u6 u7 u8 u9 u10 u11 u12 u13 u14 u15 u16 u17 u18 u19 u20 u21 u22 u23 u24 u25 u26 (.ref wa) u28 u29 u30 u31 u32 u33 u34 u35 dd i 2 (by first | assumption | omega | decide) (by first | assumption | omega | decide) (by first | assumption | omega | decide)) gX6_turnOf_X6_axisOf rfl (by decide +kernel) (by rw [hR]; exact ⟨Nat.le_of_ble_eq_true rfl, Nat.le_of_ble_eq_true rfl⟩) [0, 1] 0 6 rfl rfl (by decide) rfl [o, xa] rfl rfl rfl rfl (Nat.le_of_ble_eq_true rfl) dX6_turnOf_17 ⟨Nat.zero_le _, Nat.zero_le _⟩ (fun H locs hw => ?_)
  have hw : g_W D A s [(o, .inr (6, [u0, u1, u2, .ref xa, u4, u5, u6, u7, u8, u9, u10, u11, u12, u13, u14, u15, u16, u17, u18, u19, u20, u21, u22, u23, u24, u25, u26, .ref wa, u28, u29, u30, u31, u32, u33, u34, u35])), (xa, .inl (E 0, 12, .inl (g_tv 0))), (wa, .inl (E 0, 3, .inl wn))] H locs := hw
  refine lv_aload_n hx hb dX6_turnOf_20 rfl (lv_at hl 2 rfl) ?_
  refine g_get (TT := TX6) hc hw inX6_turnOf_X6 0 27 1 rfl rfl (by decide) rfl rfl dX6_turnOf_21 ?_
  refine lv_iload hx hb dX6_turnOf_24 (lv_at hl 0 rfl) ?_
  refine g_ild hc hw 2 2 rfl rfl (by omega) (by decide) dX6_turnOf_26 ?_
  refine lv_imul hx hb dX6_turnOf_27 ?_
  refine lv_iadd hx hb dX6_turnOf_28 ?_
  refine lv_istore_n (lv' := [(3, .int (((0 + ((axF dd i 0) * (wn 0))) + ((axF dd i 1) * (wn 1))) + ((axF dd i 2) * (wn 2)))), (4, .int 2), (0, .ref o), (1, .int (nI i)), (2, .int dd)]) hx hb dX6_turnOf_29 rfl hl (by decide) rfl (fun ls hl => ?_)
  refine lv_iinc (v := 3) (lv' := [(4, .int 3), (3, .int (((0 + ((axF dd i 0) * (wn 0))) + ((axF dd i 1) * (wn 1))) + ((axF dd i 2) * (wn 2)))), (0, .ref o), (1, .int (nI i)), (2, .int dd)]) hx hb dX6_turnOf_30 hl (k := 1) rfl (by decide) (by decide) rfl (fun ls hl => ?_)
  refine lv_goto (tgt := 5) hx hb dX6_turnOf_33 (by decide) ?_
  refine lv_iload hx hb dX6_turnOf_5 (lv_at hl 0 rfl) ?_
  refine lv_iconst (v := 3) hx hb dX6_turnOf_7 (by decide) ?_
  refine lv_icmp_ge (tgt := 36) hx hb dX6_turnOf_8 (by decide) (fun c_8 => ?_) (fun c_8 => absurd c_8 (by decide))
  refine lv_iload_n hx hb dX6_turnOf_36 rfl (lv_at hl 1 rfl) ?_
  exact g_iret hQ hc hw hr rfl rfl dX6_turnOf_37
end P20
