section P19g
theorem dX5_see_0 : decode cX5_see 0 = .ok (.iload_n 1, 1) := by decide +kernel
theorem dX5_see_1 : decode cX5_see 1 = .ok (.iconst 0, 1) := by decide +kernel
theorem dX5_see_2 : decode cX5_see 2 = .ok (.bipush 9, 2) := by decide +kernel
theorem dX5_see_4 : decode cX5_see 4 = .ok (.invokestatic 59, 3) := by decide +kernel
theorem dX5_see_7 : decode cX5_see 7 = .ok (.ifCond .ne 34, 3) := by decide +kernel
theorem dX5_see_41 : decode cX5_see 41 = .ok (.bipush (-2), 2) := by decide +kernel
theorem dX5_see_43 : decode cX5_see 43 = .ok (.ireturn, 1) := by decide +kernel
set_option maxRecDepth 20000 in
theorem ggX5_see_X5_outside : GoodIn wsX5_see wsX5_outside := goodIn_r _ [6] rfl (by decide +kernel)
set_option maxRecDepth 20000 in
theorem gX5_see_X5_outside : GoodIn wsX5_see (va_wsS RX5 59 yX5_outside wsX5_outside) := goodIn_app (goodIn_of _ (by decide +kernel)) ggX5_see_X5_outside
set_option maxRecDepth 100000 in
set_option maxHeartbeats 4000000 in
theorem m_X5_see_1 {l : Launch} {D : va_G} {E : Nat → ClassId} {T : Nat → Nat} (ob : Nat) (z0 : Value) (z1 : Value) (z2 : Value) (z3 : Value) (z4 : Value) (z5 : Value) (z6 : Value) (z7 : Value) (z8 : Value) (z9 : Value) (z10 : Value) (n8 : Int32) (w8 : Int32) (v8 : Int32) (b8 : Int32) (ho : outB n8 0 9 = true) : g_M l D E T yX5_see wsX5_see 1 22 [.ref ob, .int n8, .int w8, .int v8, .int b8] [(ob, .inr (5, [z0, z1, z2, z3, z4, z5, z6, z7, z8, z9, z10]))] [(ob, .inr (5, [z0, z1, z2, z3, z4, z5, z6, z7, z8, z9, z10]))] (some (.int (-2))) := by
  refine g_M.of (cc := cX5_see) (nL := 5) (ret := (some .int)) (own := RX5) (lv := [(0, .ref ob), (1, .int n8), (2, .int w8), (3, .int v8), (4, .int b8)]) (by decide) rfl rfl (Nat.le_of_ble_eq_true rfl) rfl ?_
  intro p e R s m args below meth c A Q H locs ls hR hQ hc hr hw hl
  have hx := hc.1
  have hb := hc.2.1
  have hts := hc.2.2.2.1
  have hown := hc.2.2.2.2.1
  refine lv_iload_n hx hb dX5_see_0 rfl (lv_at hl 1 rfl) ?_
  refine lv_iconst (v := 0) hx hb dX5_see_1 (by decide) ?_
  refine lv_bipush (v := 9) hx hb dX5_see_2 (by decide) ?_
  refine g_cS (As := [.int n8, .int 0, .int 9]) (n := 3) (rest := []) (wc := []) (w1 := []) (bytes := cX5_outside) (maxL := 3) (ret := (some .boolean)) hc hw hl.1 (m_X5_outside (l := l) (D := D) (E := E) (T := T) n8 0 9) gX5_see_X5_outside rfl (by decide +kernel) (by rw [hR]; exact ⟨Nat.le_of_ble_eq_true rfl, Nat.le_of_ble_eq_true rfl⟩) [] (by decide) rfl [] rfl rfl rfl rfl (Nat.le_of_ble_eq_true rfl) dX5_see_4 ⟨Nat.zero_le _, Nat.zero_le _⟩ (fun H locs hw => ?_)
  have hw : g_W D A s [(ob, .inr (5, [z0, z1, z2, z3, z4, z5, z6, z7, z8, z9, z10]))] H locs := hw
  refine W.eq (congrArg (fun z => F0 m 7 ls (.int z :: [])) (show (b2i (outB n8 0 9) : Int32) = 1 from (congrArg b2i ho))) ?_
  refine lv_if_ne (tgt := 41) hx hb dX5_see_7 (by decide) (fun c_7 => ?_) (fun c_7 => absurd c_7 (by decide))
  refine lv_bipush (v := (-2)) hx hb dX5_see_41 (by decide) ?_
  exact g_iret hQ hc hw hr rfl rfl dX5_see_43

theorem dX5_see_10 : decode cX5_see 10 = .ok (.iload_n 2, 1) := by decide +kernel
theorem dX5_see_11 : decode cX5_see 11 = .ok (.iconst 0, 1) := by decide +kernel
theorem dX5_see_12 : decode cX5_see 12 = .ok (.iconst 2, 1) := by decide +kernel
theorem dX5_see_13 : decode cX5_see 13 = .ok (.invokestatic 59, 3) := by decide +kernel
theorem dX5_see_16 : decode cX5_see 16 = .ok (.ifCond .ne 25, 3) := by decide +kernel
set_option maxRecDepth 100000 in
set_option maxHeartbeats 4000000 in
theorem m_X5_see_2 {l : Launch} {D : va_G} {E : Nat → ClassId} {T : Nat → Nat} (ob : Nat) (z0 : Value) (z1 : Value) (z2 : Value) (z3 : Value) (z4 : Value) (z5 : Value) (z6 : Value) (z7 : Value) (z8 : Value) (z9 : Value) (z10 : Value) (n8 : Int32) (w8 : Int32) (v8 : Int32) (b8 : Int32) (h1 : outB n8 0 9 = false) (ho : outB w8 0 2 = true) : g_M l D E T yX5_see wsX5_see 1 22 [.ref ob, .int n8, .int w8, .int v8, .int b8] [(ob, .inr (5, [z0, z1, z2, z3, z4, z5, z6, z7, z8, z9, z10]))] [(ob, .inr (5, [z0, z1, z2, z3, z4, z5, z6, z7, z8, z9, z10]))] (some (.int (-2))) := by
  refine g_M.of (cc := cX5_see) (nL := 5) (ret := (some .int)) (own := RX5) (lv := [(0, .ref ob), (1, .int n8), (2, .int w8), (3, .int v8), (4, .int b8)]) (by decide) rfl rfl (Nat.le_of_ble_eq_true rfl) rfl ?_
  intro p e R s m args below meth c A Q H locs ls hR hQ hc hr hw hl
  have hx := hc.1
  have hb := hc.2.1
  have hts := hc.2.2.2.1
  have hown := hc.2.2.2.2.1
  refine lv_iload_n hx hb dX5_see_0 rfl (lv_at hl 1 rfl) ?_
  refine lv_iconst (v := 0) hx hb dX5_see_1 (by decide) ?_
  refine lv_bipush (v := 9) hx hb dX5_see_2 (by decide) ?_
  refine g_cS (As := [.int n8, .int 0, .int 9]) (n := 3) (rest := []) (wc := []) (w1 := []) (bytes := cX5_outside) (maxL := 3) (ret := (some .boolean)) hc hw hl.1 (m_X5_outside (l := l) (D := D) (E := E) (T := T) n8 0 9) gX5_see_X5_outside rfl (by decide +kernel) (by rw [hR]; exact ⟨Nat.le_of_ble_eq_true rfl, Nat.le_of_ble_eq_true rfl⟩) [] (by decide) rfl [] rfl rfl rfl rfl (Nat.le_of_ble_eq_true rfl) dX5_see_4 ⟨Nat.zero_le _, Nat.zero_le _⟩ (fun H locs hw => ?_)
  have hw : g_W D A s [(ob, .inr (5, [z0, z1, z2, z3, z4, z5, z6, z7, z8, z9, z10]))] H locs := hw
  refine W.eq (congrArg (fun z => F0 m 7 ls (.int z :: [])) (show (b2i (outB n8 0 9) : Int32) = 0 from (congrArg b2i h1))) ?_
  refine lv_if_ne (tgt := 41) hx hb dX5_see_7 (by decide) (fun c_7 => absurd c_7 (by decide)) (fun c_7 => ?_)
  refine lv_iload_n hx hb dX5_see_10 rfl (lv_at hl 2 rfl) ?_
  refine lv_iconst (v := 0) hx hb dX5_see_11 (by decide) ?_
  refine lv_iconst (v := 2) hx hb dX5_see_12 (by decide) ?_
  refine g_cS (As := [.int w8, .int 0, .int 2]) (n := 3) (rest := []) (wc := []) (w1 := []) (bytes := cX5_outside) (maxL := 3) (ret := (some .boolean)) hc hw hl.1 (m_X5_outside (l := l) (D := D) (E := E) (T := T) w8 0 2) gX5_see_X5_outside rfl (by decide +kernel) (by rw [hR]; exact ⟨Nat.le_of_ble_eq_true rfl, Nat.le_of_ble_eq_true rfl⟩) [] (by decide) rfl [] rfl rfl rfl rfl (Nat.le_of_ble_eq_true rfl) dX5_see_13 ⟨Nat.zero_le _, Nat.zero_le _⟩ (fun H locs hw => ?_)
  have hw : g_W D A s [(ob, .inr (5, [z0, z1, z2, z3, z4, z5, z6, z7, z8, z9, z10]))] H locs := hw
  refine W.eq (congrArg (fun z => F0 m 16 ls (.int z :: [])) (show (b2i (outB w8 0 2) : Int32) = 1 from (congrArg b2i ho))) ?_
  refine lv_if_ne (tgt := 41) hx hb dX5_see_16 (by decide) (fun c_16 => ?_) (fun c_16 => absurd c_16 (by decide))
  refine lv_bipush (v := (-2)) hx hb dX5_see_41 (by decide) ?_
  exact g_iret hQ hc hw hr rfl rfl dX5_see_43

theorem dX5_see_19 : decode cX5_see 19 = .ok (.iload_n 3, 1) := by decide +kernel
theorem dX5_see_20 : decode cX5_see 20 = .ok (.iconst 0, 1) := by decide +kernel
theorem dX5_see_21 : decode cX5_see 21 = .ok (.iload_n 2, 1) := by decide +kernel
theorem dX5_see_22 : decode cX5_see 22 = .ok (.invokestatic 221, 3) := by decide +kernel
theorem dX5_see_25 : decode cX5_see 25 = .ok (.invokestatic 59, 3) := by decide +kernel
theorem dX5_see_28 : decode cX5_see 28 = .ok (.ifCond .ne 13, 3) := by decide +kernel
theorem dX5_see_31 : decode cX5_see 31 = .ok (.iload 4, 2) := by decide +kernel
theorem dX5_see_33 : decode cX5_see 33 = .ok (.iconst 0, 1) := by decide +kernel
theorem dX5_see_34 : decode cX5_see 34 = .ok (.iconst 1, 1) := by decide +kernel
theorem dX5_see_35 : decode cX5_see 35 = .ok (.invokestatic 59, 3) := by decide +kernel
theorem dX5_see_38 : decode cX5_see 38 = .ok (.ifCond .eq 6, 3) := by decide +kernel
set_option maxRecDepth 20000 in
theorem ggX5_see_X3_greatest : GoodIn wsX5_see wsX3_greatest := goodIn_r _ [9] rfl (by decide +kernel)
set_option maxRecDepth 100000 in
set_option maxHeartbeats 4000000 in
theorem m_X5_see_3 {l : Launch} {D : va_G} {E : Nat → ClassId} {T : Nat → Nat} (ob : Nat) (w : Nat) (z0 : Value) (z1 : Value) (z2 : Value) (z3 : Value) (z4 : Value) (z5 : Value) (z6 : Value) (z7 : Value) (z8 : Value) (z9 : Value) (z10 : Value) (n8 : Int32) (v8 : Int32) (b8 : Int32) (h1 : outB n8 0 9 = false) (hw9 : w ≤ 2) (ho : outB v8 0 (nI (grN w)) = false → outB b8 0 1 = true) : g_M l D E T yX5_see wsX5_see 1 22 [.ref ob, .int n8, .int (nI w), .int v8, .int b8] [(ob, .inr (5, [z0, z1, z2, z3, z4, z5, z6, z7, z8, z9, z10]))] [(ob, .inr (5, [z0, z1, z2, z3, z4, z5, z6, z7, z8, z9, z10]))] (some (.int (-2))) := by
  refine g_M.of (cc := cX5_see) (nL := 5) (ret := (some .int)) (own := RX5) (lv := [(0, .ref ob), (1, .int n8), (2, .int (nI w)), (3, .int v8), (4, .int b8)]) (by decide) rfl rfl (Nat.le_of_ble_eq_true rfl) rfl ?_
  intro p e R s m args below meth c A Q H locs ls hR hQ hc hr hw hl
  have hx := hc.1
  have hb := hc.2.1
  have hts := hc.2.2.2.1
  have hown := hc.2.2.2.2.1
  refine lv_iload_n hx hb dX5_see_0 rfl (lv_at hl 1 rfl) ?_
  refine lv_iconst (v := 0) hx hb dX5_see_1 (by decide) ?_
  refine lv_bipush (v := 9) hx hb dX5_see_2 (by decide) ?_
  refine g_cS (As := [.int n8, .int 0, .int 9]) (n := 3) (rest := []) (wc := []) (w1 := []) (bytes := cX5_outside) (maxL := 3) (ret := (some .boolean)) hc hw hl.1 (m_X5_outside (l := l) (D := D) (E := E) (T := T) n8 0 9) gX5_see_X5_outside rfl (by decide +kernel) (by rw [hR]; exact ⟨Nat.le_of_ble_eq_true rfl, Nat.le_of_ble_eq_true rfl⟩) [] (by decide) rfl [] rfl rfl rfl rfl (Nat.le_of_ble_eq_true rfl) dX5_see_4 ⟨Nat.zero_le _, Nat.zero_le _⟩ (fun H locs hw => ?_)
  have hw : g_W D A s [(ob, .inr (5, [z0, z1, z2, z3, z4, z5, z6, z7, z8, z9, z10]))] H locs := hw
  refine W.eq (congrArg (fun z => F0 m 7 ls (.int z :: [])) (show (b2i (outB n8 0 9) : Int32) = 0 from (congrArg b2i h1))) ?_
  refine lv_if_ne (tgt := 41) hx hb dX5_see_7 (by decide) (fun c_7 => absurd c_7 (by decide)) (fun c_7 => ?_)
  refine lv_iload_n hx hb dX5_see_10 rfl (lv_at hl 2 rfl) ?_
  refine lv_iconst (v := 0) hx hb dX5_see_11 (by decide) ?_
  refine lv_iconst (v := 2) hx hb dX5_see_12 (by decide) ?_
  refine g_cS (As := [.int (nI w), .int 0, .int 2]) (n := 3) (rest := []) (wc := []) (w1 := []) (bytes := cX5_outside) (maxL := 3) (ret := (some .boolean)) hc hw hl.1 (m_X5_outside (l := l) (D := D) (E := E) (T := T) (nI w) 0 2) gX5_see_X5_outside rfl (by decide +kernel) (by rw [hR]; exact ⟨Nat.le_of_ble_eq_true rfl, Nat.le_of_ble_eq_true rfl⟩) [] (by decide) rfl [] rfl rfl rfl rfl (Nat.le_of_ble_eq_true rfl) dX5_see_13 ⟨Nat.zero_le _, Nat.zero_le _⟩ (fun H locs hw => ?_)
  have hw : g_W D A s [(ob, .inr (5, [z0, z1, z2, z3, z4, z5, z6, z7, z8, z9, z10]))] H locs := hw
  refine W.eq (congrArg (fun z => F0 m 16 ls (.int z :: [])) (show (b2i (outB (nI w) 0 2) : Int32) = 0 from (congrArg b2i (out_nf (n := w) (a := 0) (b := 2) (by omega) hw9 (by decide))))) ?_
  refine lv_if_ne (tgt := 41) hx hb dX5_see_16 (by decide) (fun c_16 => absurd c_16 (by decide)) (fun c_16 => ?_)
  refine lv_iload_n hx hb dX5_see_19 rfl (lv_at hl 3 rfl) ?_
  refine lv_iconst (v := 0) hx hb dX5_see_20 (by decide) ?_
  refine lv_iload_n hx hb dX5_see_21 rfl (lv_at hl 2 rfl) ?_
  refine g_cSN (As := [.int (nI w)]) (n := 1) (rest := [.int 0, .int v8]) (wc := []) (w1 := []) (bytes := cX3_greatest) (maxL := 1) (ret := (some .int)) hc hw hl.1 (m_X3_greatest (l := l) (D := D) (E := E) (T := T) w (by first | assumption | omega | decide)) ggX5_see_X3_greatest rfl 76 rfl 8 7 rfl rfl (by decide +kernel) (by rw [hR]; exact ⟨Nat.le_of_ble_eq_true rfl, Nat.le_of_ble_eq_true rfl⟩) [] (by decide) rfl [] rfl rfl rfl rfl (Nat.le_of_ble_eq_true rfl) dX5_see_22 ⟨Nat.zero_le _, Nat.zero_le _⟩ (fun H locs hw => ?_)
  have hw : g_W D A s [(ob, .inr (5, [z0, z1, z2, z3, z4, z5, z6, z7, z8, z9, z10]))] H locs := hw
  refine g_cS (As := [.int v8, .int 0, .int (nI (grN w))]) (n := 3) (rest := []) (wc := []) (w1 := []) (bytes := cX5_outside) (maxL := 3) (ret := (some .boolean)) hc hw hl.1 (m_X5_outside (l := l) (D := D) (E := E) (T := T) v8 0 (nI (grN w))) gX5_see_X5_outside rfl (by decide +kernel) (by rw [hR]; exact ⟨Nat.le_of_ble_eq_true rfl, Nat.le_of_ble_eq_true rfl⟩) [] (by decide) rfl [] rfl rfl rfl rfl (Nat.le_of_ble_eq_true rfl) dX5_see_25 ⟨Nat.zero_le _, Nat.zero_le _⟩ (fun H locs hw => ?_)
  have hw : g_W D A s [(ob, .inr (5, [z0, z1, z2, z3, z4, z5, z6, z7, z8, z9, z10]))] H locs := hw
  refine lv_if_ne (tgt := 41) hx hb dX5_see_28 (by decide) (fun c_28 => ?_) (fun c_28 => ?_)
  · skip
    have k_28 := b2i_ne c_28
    refine lv_bipush (v := (-2)) hx hb dX5_see_41 (by decide) ?_
    exact g_iret hQ hc hw hr rfl rfl dX5_see_43
  · skip
    have k_28 := b2i_eq c_28
    refine lv_iload hx hb dX5_see_31 (lv_at hl 4 rfl) ?_
    refine lv_iconst (v := 0) hx hb dX5_see_33 (by decide) ?_
    refine lv_iconst (v := 1) hx hb dX5_see_34 (by decide) ?_
    refine g_cS (As := [.int b8, .int 0, .int 1]) (n := 3) (rest := []) (wc := []) (w1 := []) (bytes := cX5_outside) (maxL := 3) (ret := (some .boolean)) hc hw hl.1 (m_X5_outside (l := l) (D := D) (E := E) (T := T) b8 0 1) gX5_see_X5_outside rfl (by decide +kernel) (by rw [hR]; exact ⟨Nat.le_of_ble_eq_true rfl, Nat.le_of_ble_eq_true rfl⟩) [] (by decide) rfl [] rfl rfl rfl rfl (Nat.le_of_ble_eq_true rfl) dX5_see_35 ⟨Nat.zero_le _, Nat.zero_le _⟩ (fun H locs hw => ?_)
    have hw : g_W D A s [(ob, .inr (5, [z0, z1, z2, z3, z4, z5, z6, z7, z8, z9, z10]))] H locs := hw
    refine lv_if_eq (tgt := 44) hx hb dX5_see_38 (by decide) (fun c_38 => absurd (b2i_eq c_38) (by rw [ho k_28]; decide)) (fun c_38 => ?_)
    refine lv_bipush (v := (-2)) hx hb dX5_see_41 (by decide) ?_
    exact g_iret hQ hc hw hr rfl rfl dX5_see_43

theorem dX5_see_44 : decode cX5_see 44 = .ok (.aload_n 0, 1) := by decide +kernel
theorem dX5_see_45 : decode cX5_see 45 = .ok (.getfield 225, 3) := by decide +kernel
theorem dX5_see_48 : decode cX5_see 48 = .ok (.bipush 6, 2) := by decide +kernel
theorem dX5_see_50 : decode cX5_see 50 = .ok (.if_icmp .lt 6, 3) := by decide +kernel
theorem dX5_see_53 : decode cX5_see 53 = .ok (.bipush (-4), 2) := by decide +kernel
theorem dX5_see_55 : decode cX5_see 55 = .ok (.ireturn, 1) := by decide +kernel
theorem inX5_see_X5 : ∀ w ∈ u_ws RX5 TX5 11, w ∈ wsX5_see := fun w h => List.mem_cons_of_mem _ (List.mem_append_left _ (List.mem_append_right _ h))
set_option maxRecDepth 100000 in
set_option maxHeartbeats 4000000 in
theorem m_X5_see_full {l : Launch} {D : va_G} {E : Nat → ClassId} {T : Nat → Nat} (ob : Nat) (n : Nat) (w : Nat) (v : Nat) (b8 : Nat) (cn : Nat) (z0 : Value) (z1 : Value) (z2 : Value) (z3 : Value) (z4 : Value) (z5 : Value) (z6 : Value) (z7 : Value) (z8 : Value) (z10 : Value) (hn : n ≤ 9) (hw9 : w ≤ 2) (hv9 : v ≤ grN w) (hg9 : grN w ≤ 99) (hb9 : b8 ≤ 1) (hcn : cn = 6) : g_M l D E T yX5_see wsX5_see 1 22 [.ref ob, .int (nI n), .int (nI w), .int (nI v), .int (nI b8)] [(ob, .inr (5, [z0, z1, z2, z3, z4, z5, z6, z7, z8, .int (nI cn), z10]))] [(ob, .inr (5, [z0, z1, z2, z3, z4, z5, z6, z7, z8, .int (nI cn), z10]))] (some (.int (-4))) := by
  refine g_M.of (cc := cX5_see) (nL := 5) (ret := (some .int)) (own := RX5) (lv := [(0, .ref ob), (1, .int (nI n)), (2, .int (nI w)), (3, .int (nI v)), (4, .int (nI b8))]) (by decide) rfl rfl (Nat.le_of_ble_eq_true rfl) rfl ?_
  intro p e R s m args below meth c A Q H locs ls hR hQ hc hr hw hl
  have hx := hc.1
  have hb := hc.2.1
  have hts := hc.2.2.2.1
  have hown := hc.2.2.2.2.1
  refine lv_iload_n hx hb dX5_see_0 rfl (lv_at hl 1 rfl) ?_
  refine lv_iconst (v := 0) hx hb dX5_see_1 (by decide) ?_
  refine lv_bipush (v := 9) hx hb dX5_see_2 (by decide) ?_
  refine g_cS (As := [.int (nI n), .int 0, .int 9]) (n := 3) (rest := []) (wc := []) (w1 := []) (bytes := cX5_outside) (maxL := 3) (ret := (some .boolean)) hc hw hl.1 (m_X5_outside (l := l) (D := D) (E := E) (T := T) (nI n) 0 9) gX5_see_X5_outside rfl (by decide +kernel) (by rw [hR]; exact ⟨Nat.le_of_ble_eq_true rfl, Nat.le_of_ble_eq_true rfl⟩) [] (by decide) rfl [] rfl rfl rfl rfl (Nat.le_of_ble_eq_true rfl) dX5_see_4 ⟨Nat.zero_le _, Nat.zero_le _⟩ (fun H locs hw => ?_)
  have hw : g_W D A s [(ob, .inr (5, [z0, z1, z2, z3, z4, z5, z6, z7, z8, .int (nI cn), z10]))] H locs := hw
  refine W.eq (congrArg (fun z => F0 m 7 ls (.int z :: [])) (show (b2i (outB (nI n) 0 9) : Int32) = 0 from (congrArg b2i (out_nf (n := n) (a := 0) (b := 9) (by omega) hn (by decide))))) ?_
  refine lv_if_ne (tgt := 41) hx hb dX5_see_7 (by decide) (fun c_7 => absurd c_7 (by decide)) (fun c_7 => ?_)
  refine lv_iload_n hx hb dX5_see_10 rfl (lv_at hl 2 rfl) ?_
  refine lv_iconst (v := 0) hx hb dX5_see_11 (by decide) ?_
  refine lv_iconst (v := 2) hx hb dX5_see_12 (by decide) ?_
  refine g_cS (As := [.int (nI w), .int 0, .int 2]) (n := 3) (rest := []) (wc := []) (w1 := []) (bytes := cX5_outside) (maxL := 3) (ret := (some .boolean)) hc hw hl.1 (m_X5_outside (l := l) (D := D) (E := E) (T := T) (nI w) 0 2) gX5_see_X5_outside rfl (by decide +kernel) (by rw [hR]; exact ⟨Nat.le_of_ble_eq_true rfl, Nat.le_of_ble_eq_true rfl⟩) [] (by decide) rfl [] rfl rfl rfl rfl (Nat.le_of_ble_eq_true rfl) dX5_see_13 ⟨Nat.zero_le _, Nat.zero_le _⟩ (fun H locs hw => ?_)
  have hw : g_W D A s [(ob, .inr (5, [z0, z1, z2, z3, z4, z5, z6, z7, z8, .int (nI cn), z10]))] H locs := hw
  refine W.eq (congrArg (fun z => F0 m 16 ls (.int z :: [])) (show (b2i (outB (nI w) 0 2) : Int32) = 0 from (congrArg b2i (out_nf (n := w) (a := 0) (b := 2) (by omega) hw9 (by decide))))) ?_
  refine lv_if_ne (tgt := 41) hx hb dX5_see_16 (by decide) (fun c_16 => absurd c_16 (by decide)) (fun c_16 => ?_)
  refine lv_iload_n hx hb dX5_see_19 rfl (lv_at hl 3 rfl) ?_
  refine lv_iconst (v := 0) hx hb dX5_see_20 (by decide) ?_
  refine lv_iload_n hx hb dX5_see_21 rfl (lv_at hl 2 rfl) ?_
  refine g_cSN (As := [.int (nI w)]) (n := 1) (rest := [.int 0, .int (nI v)]) (wc := []) (w1 := []) (bytes := cX3_greatest) (maxL := 1) (ret := (some .int)) hc hw hl.1 (m_X3_greatest (l := l) (D := D) (E := E) (T := T) w (by first | assumption | omega | decide)) ggX5_see_X3_greatest rfl 76 rfl 8 7 rfl rfl (by decide +kernel) (by rw [hR]; exact ⟨Nat.le_of_ble_eq_true rfl, Nat.le_of_ble_eq_true rfl⟩) [] (by decide) rfl [] rfl rfl rfl rfl (Nat.le_of_ble_eq_true rfl) dX5_see_22 ⟨Nat.zero_le _, Nat.zero_le _⟩ (fun H locs hw => ?_)
  have hw : g_W D A s [(ob, .inr (5, [z0, z1, z2, z3, z4, z5, z6, z7, z8, .int (nI cn), z10]))] H locs := hw
  refine g_cS (As := [.int (nI v), .int 0, .int (nI (grN w))]) (n := 3) (rest := []) (wc := []) (w1 := []) (bytes := cX5_outside) (maxL := 3) (ret := (some .boolean)) hc hw hl.1 (m_X5_outside (l := l) (D := D) (E := E) (T := T) (nI v) 0 (nI (grN w))) gX5_see_X5_outside rfl (by decide +kernel) (by rw [hR]; exact ⟨Nat.le_of_ble_eq_true rfl, Nat.le_of_ble_eq_true rfl⟩) [] (by decide) rfl [] rfl rfl rfl rfl (Nat.le_of_ble_eq_true rfl) dX5_see_25 ⟨Nat.zero_le _, Nat.zero_le _⟩ (fun H locs hw => ?_)
  have hw : g_W D A s [(ob, .inr (5, [z0, z1, z2, z3, z4, z5, z6, z7, z8, .int (nI cn), z10]))] H locs := hw
  refine W.eq (congrArg (fun z => F0 m 28 ls (.int z :: [])) (show (b2i (outB (nI v) 0 (nI (grN w))) : Int32) = 0 from (congrArg b2i (out_nf (n := v) (a := 0) (b := grN w) (by omega) hv9 (by omega))))) ?_
  refine lv_if_ne (tgt := 41) hx hb dX5_see_28 (by decide) (fun c_28 => absurd c_28 (by decide)) (fun c_28 => ?_)
  refine lv_iload hx hb dX5_see_31 (lv_at hl 4 rfl) ?_
  refine lv_iconst (v := 0) hx hb dX5_see_33 (by decide) ?_
  refine lv_iconst (v := 1) hx hb dX5_see_34 (by decide) ?_
  refine g_cS (As := [.int (nI b8), .int 0, .int 1]) (n := 3) (rest := []) (wc := []) (w1 := []) (bytes := cX5_outside) (maxL := 3) (ret := (some .boolean)) hc hw hl.1 (m_X5_outside (l := l) (D := D) (E := E) (T := T) (nI b8) 0 1) gX5_see_X5_outside rfl (by decide +kernel) (by rw [hR]; exact ⟨Nat.le_of_ble_eq_true rfl, Nat.le_of_ble_eq_true rfl⟩) [] (by decide) rfl [] rfl rfl rfl rfl (Nat.le_of_ble_eq_true rfl) dX5_see_35 ⟨Nat.zero_le _, Nat.zero_le _⟩ (fun H locs hw => ?_)
  have hw : g_W D A s [(ob, .inr (5, [z0, z1, z2, z3, z4, z5, z6, z7, z8, .int (nI cn), z10]))] H locs := hw
  refine W.eq (congrArg (fun z => F0 m 38 ls (.int z :: [])) (show (b2i (outB (nI b8) 0 1) : Int32) = 0 from (congrArg b2i (out_nf (n := b8) (a := 0) (b := 1) (by omega) hb9 (by decide))))) ?_
  refine lv_if_eq (tgt := 44) hx hb dX5_see_38 (by decide) (fun c_38 => ?_) (fun c_38 => absurd c_38 (by decide))
  refine lv_aload_n hx hb dX5_see_44 rfl (lv_at hl 0 rfl) ?_
  refine g_get (TT := TX5) hc hw inX5_see_X5 0 9 1 rfl rfl (by decide) rfl rfl dX5_see_45 ?_
  refine lv_bipush (v := 6) hx hb dX5_see_48 (by decide) ?_
  refine lv_icmp_lt (tgt := 56) hx hb dX5_see_50 (by decide) (fun c_50 => absurd c_50 (by rw [hcn]; decide)) (fun c_50 => ?_)
  refine lv_bipush (v := (-4)) hx hb dX5_see_53 (by decide) ?_
  exact g_iret hQ hc hw hr rfl rfl dX5_see_55

theorem dX5_see_56 : decode cX5_see 56 = .ok (.aload_n 0, 1) := by decide +kernel
theorem dX5_see_57 : decode cX5_see 57 = .ok (.getfield 50, 3) := by decide +kernel
theorem dX5_see_60 : decode cX5_see 60 = .ok (.aload_n 0, 1) := by decide +kernel
theorem dX5_see_61 : decode cX5_see 61 = .ok (.getfield 225, 3) := by decide +kernel
theorem dX5_see_64 : decode cX5_see 64 = .ok (.aaload, 1) := by decide +kernel
theorem dX5_see_65 : decode cX5_see 65 = .ok (.iload_n 1, 1) := by decide +kernel
theorem dX5_see_66 : decode cX5_see 66 = .ok (.iload_n 2, 1) := by decide +kernel
theorem dX5_see_67 : decode cX5_see 67 = .ok (.iload_n 3, 1) := by decide +kernel
theorem dX5_see_68 : decode cX5_see 68 = .ok (.iload 4, 2) := by decide +kernel
theorem dX5_see_70 : decode cX5_see 70 = .ok (.invokevirtual 228, 3) := by decide +kernel
theorem dX5_see_73 : decode cX5_see 73 = .ok (.aload_n 0, 1) := by decide +kernel
theorem dX5_see_74 : decode cX5_see 74 = .ok (.dup, 1) := by decide +kernel
theorem dX5_see_75 : decode cX5_see 75 = .ok (.getfield 225, 3) := by decide +kernel
theorem dX5_see_78 : decode cX5_see 78 = .ok (.iconst 1, 1) := by decide +kernel
theorem dX5_see_79 : decode cX5_see 79 = .ok (.iadd, 1) := by decide +kernel
theorem dX5_see_80 : decode cX5_see 80 = .ok (.putfield 225, 3) := by decide +kernel
theorem dX5_see_83 : decode cX5_see 83 = .ok (.aload_n 0, 1) := by decide +kernel
theorem dX5_see_84 : decode cX5_see 84 = .ok (.getfield 225, 3) := by decide +kernel
theorem dX5_see_87 : decode cX5_see 87 = .ok (.ireturn, 1) := by decide +kernel
set_option maxRecDepth 20000 in
theorem ggX5_see_X3_fill : GoodIn wsX5_see wsX3_fill := goodIn_r _ [12, 13, 14, 15, 16, 28, 29, 30, 31] rfl (by decide +kernel)
set_option maxRecDepth 100000 in
set_option maxHeartbeats 4000000 in
theorem m_X5_see_ok0 {l : Launch} {D : va_G} {E : Nat → ClassId} {T : Nat → Nat} (ob : Nat) (n : Nat) (w : Nat) (v : Nat) (b8 : Nat) (ga : Nat) (z0 : Value) (z1 : Value) (z2 : Value) (z3 : Value) (z4 : Value) (z5 : Value) (z6 : Value) (z8 : Value) (z10 : Value) (gA : Nat → Nat) (q0 : Value) (q1 : Value) (q2 : Value) (q3 : Value) (hn : n ≤ 9) (hw9 : w ≤ 2) (hv9 : v ≤ grN w) (hg9 : grN w ≤ 99) (hb9 : b8 ≤ 1) : g_M l D E T yX5_see wsX5_see 1 24 [.ref ob, .int (nI n), .int (nI w), .int (nI v), .int (nI b8)] [(ob, .inr (5, [z0, z1, z2, z3, z4, z5, z6, .ref ga, z8, .int (nI 0), z10])), (ga, .inl (E 5, 6, .inr (.inr (.inr (.inr (fun k => some (gA k))))))), ((gA 0), .inr (3, [q0, q1, q2, q3]))] [(ob, .inr (5, [z0, z1, z2, z3, z4, z5, z6, .ref ga, z8, .int (nI (0 + 1)), z10])), (ga, .inl (E 5, 6, .inr (.inr (.inr (.inr (fun k => some (gA k))))))), ((gA 0), .inr (3, [.int (nI n), .int (nI w), .int (nI v), .int (b2i (decide (nI b8 = 1)))]))] (some (.int (nI (0 + 1)))) := by
  refine g_M.of (cc := cX5_see) (nL := 5) (ret := (some .int)) (own := RX5) (lv := [(0, .ref ob), (1, .int (nI n)), (2, .int (nI w)), (3, .int (nI v)), (4, .int (nI b8))]) (by decide) rfl rfl (Nat.le_of_ble_eq_true rfl) rfl ?_
  intro p e R s m args below meth c A Q H locs ls hR hQ hc hr hw hl
  have hx := hc.1
  have hb := hc.2.1
  have hts := hc.2.2.2.1
  have hown := hc.2.2.2.2.1
  refine lv_iload_n hx hb dX5_see_0 rfl (lv_at hl 1 rfl) ?_
  refine lv_iconst (v := 0) hx hb dX5_see_1 (by decide) ?_
  refine lv_bipush (v := 9) hx hb dX5_see_2 (by decide) ?_
  refine g_cS (As := [.int (nI n), .int 0, .int 9]) (n := 3) (rest := []) (wc := []) (w1 := []) (bytes := cX5_outside) (maxL := 3) (ret := (some .boolean)) hc hw hl.1 (m_X5_outside (l := l) (D := D) (E := E) (T := T) (nI n) 0 9) gX5_see_X5_outside rfl (by decide +kernel) (by rw [hR]; exact ⟨Nat.le_of_ble_eq_true rfl, Nat.le_of_ble_eq_true rfl⟩) [] (by decide) rfl [] rfl rfl rfl rfl (Nat.le_of_ble_eq_true rfl) dX5_see_4 ⟨Nat.zero_le _, Nat.zero_le _⟩ (fun H locs hw => ?_)
  have hw : g_W D A s [(ob, .inr (5, [z0, z1, z2, z3, z4, z5, z6, .ref ga, z8, .int (nI 0), z10])), (ga, .inl (E 5, 6, .inr (.inr (.inr (.inr (fun k => some (gA k))))))), ((gA 0), .inr (3, [q0, q1, q2, q3]))] H locs := hw
  refine W.eq (congrArg (fun z => F0 m 7 ls (.int z :: [])) (show (b2i (outB (nI n) 0 9) : Int32) = 0 from (congrArg b2i (out_nf (n := n) (a := 0) (b := 9) (by omega) hn (by decide))))) ?_
  refine lv_if_ne (tgt := 41) hx hb dX5_see_7 (by decide) (fun c_7 => absurd c_7 (by decide)) (fun c_7 => ?_)
  refine lv_iload_n hx hb dX5_see_10 rfl (lv_at hl 2 rfl) ?_
  refine lv_iconst (v := 0) hx hb dX5_see_11 (by decide) ?_
  refine lv_iconst (v := 2) hx hb dX5_see_12 (by decide) ?_
  refine g_cS (As := [.int (nI w), .int 0, .int 2]) (n := 3) (rest := []) (wc := []) (w1 := []) (bytes := cX5_outside) (maxL := 3) (ret := (some .boolean)) hc hw hl.1 (m_X5_outside (l := l) (D := D) (E := E) (T := T) (nI w) 0 2) gX5_see_X5_outside rfl (by decide +kernel) (by rw [hR]; exact ⟨Nat.le_of_ble_eq_true rfl, Nat.le_of_ble_eq_true rfl⟩) [] (by decide) rfl [] rfl rfl rfl rfl (Nat.le_of_ble_eq_true rfl) dX5_see_13 ⟨Nat.zero_le _, Nat.zero_le _⟩ (fun H locs hw => ?_)
  have hw : g_W D A s [(ob, .inr (5, [z0, z1, z2, z3, z4, z5, z6, .ref ga, z8, .int (nI 0), z10])), (ga, .inl (E 5, 6, .inr (.inr (.inr (.inr (fun k => some (gA k))))))), ((gA 0), .inr (3, [q0, q1, q2, q3]))] H locs := hw
  refine W.eq (congrArg (fun z => F0 m 16 ls (.int z :: [])) (show (b2i (outB (nI w) 0 2) : Int32) = 0 from (congrArg b2i (out_nf (n := w) (a := 0) (b := 2) (by omega) hw9 (by decide))))) ?_
  refine lv_if_ne (tgt := 41) hx hb dX5_see_16 (by decide) (fun c_16 => absurd c_16 (by decide)) (fun c_16 => ?_)
  refine lv_iload_n hx hb dX5_see_19 rfl (lv_at hl 3 rfl) ?_
  refine lv_iconst (v := 0) hx hb dX5_see_20 (by decide) ?_
  refine lv_iload_n hx hb dX5_see_21 rfl (lv_at hl 2 rfl) ?_
  refine g_cSN (As := [.int (nI w)]) (n := 1) (rest := [.int 0, .int (nI v)]) (wc := []) (w1 := []) (bytes := cX3_greatest) (maxL := 1) (ret := (some .int)) hc hw hl.1 (m_X3_greatest (l := l) (D := D) (E := E) (T := T) w (by first | assumption | omega | decide)) ggX5_see_X3_greatest rfl 76 rfl 8 7 rfl rfl (by decide +kernel) (by rw [hR]; exact ⟨Nat.le_of_ble_eq_true rfl, Nat.le_of_ble_eq_true rfl⟩) [] (by decide) rfl [] rfl rfl rfl rfl (Nat.le_of_ble_eq_true rfl) dX5_see_22 ⟨Nat.zero_le _, Nat.zero_le _⟩ (fun H locs hw => ?_)
  have hw : g_W D A s [(ob, .inr (5, [z0, z1, z2, z3, z4, z5, z6, .ref ga, z8, .int (nI 0), z10])), (ga, .inl (E 5, 6, .inr (.inr (.inr (.inr (fun k => some (gA k))))))), ((gA 0), .inr (3, [q0, q1, q2, q3]))] H locs := hw
  refine g_cS (As := [.int (nI v), .int 0, .int (nI (grN w))]) (n := 3) (rest := []) (wc := []) (w1 := []) (bytes := cX5_outside) (maxL := 3) (ret := (some .boolean)) hc hw hl.1 (m_X5_outside (l := l) (D := D) (E := E) (T := T) (nI v) 0 (nI (grN w))) gX5_see_X5_outside rfl (by decide +kernel) (by rw [hR]; exact ⟨Nat.le_of_ble_eq_true rfl, Nat.le_of_ble_eq_true rfl⟩) [] (by decide) rfl [] rfl rfl rfl rfl (Nat.le_of_ble_eq_true rfl) dX5_see_25 ⟨Nat.zero_le _, Nat.zero_le _⟩ (fun H locs hw => ?_)
  have hw : g_W D A s [(ob, .inr (5, [z0, z1, z2, z3, z4, z5, z6, .ref ga, z8, .int (nI 0), z10])), (ga, .inl (E 5, 6, .inr (.inr (.inr (.inr (fun k => some (gA k))))))), ((gA 0), .inr (3, [q0, q1, q2, q3]))] H locs := hw
  refine W.eq (congrArg (fun z => F0 m 28 ls (.int z :: [])) (show (b2i (outB (nI v) 0 (nI (grN w))) : Int32) = 0 from (congrArg b2i (out_nf (n := v) (a := 0) (b := grN w) (by omega) hv9 (by omega))))) ?_
  refine lv_if_ne (tgt := 41) hx hb dX5_see_28 (by decide) (fun c_28 => absurd c_28 (by decide)) (fun c_28 => ?_)
  refine lv_iload hx hb dX5_see_31 (lv_at hl 4 rfl) ?_
  refine lv_iconst (v := 0) hx hb dX5_see_33 (by decide) ?_
  refine lv_iconst (v := 1) hx hb dX5_see_34 (by decide) ?_
  refine g_cS (As := [.int (nI b8), .int 0, .int 1]) (n := 3) (rest := []) (wc := []) (w1 := []) (bytes := cX5_outside) (maxL := 3) (ret := (some .boolean)) hc hw hl.1 (m_X5_outside (l := l) (D := D) (E := E) (T := T) (nI b8) 0 1) gX5_see_X5_outside rfl (by decide +kernel) (by rw [hR]; exact ⟨Nat.le_of_ble_eq_true rfl, Nat.le_of_ble_eq_true rfl⟩) [] (by decide) rfl [] rfl rfl rfl rfl (Nat.le_of_ble_eq_true rfl) dX5_see_35 ⟨Nat.zero_le _, Nat.zero_le _⟩ (fun H locs hw => ?_)
  have hw : g_W D A s [(ob, .inr (5, [z0, z1, z2, z3, z4, z5, z6, .ref ga, z8, .int (nI 0), z10])), (ga, .inl (E 5, 6, .inr (.inr (.inr (.inr (fun k => some (gA k))))))), ((gA 0), .inr (3, [q0, q1, q2, q3]))] H locs := hw
  refine W.eq (congrArg (fun z => F0 m 38 ls (.int z :: [])) (show (b2i (outB (nI b8) 0 1) : Int32) = 0 from (congrArg b2i (out_nf (n := b8) (a := 0) (b := 1) (by omega) hb9 (by decide))))) ?_
  refine lv_if_eq (tgt := 44) hx hb dX5_see_38 (by decide) (fun c_38 => ?_) (fun c_38 => absurd c_38 (by decide))
  refine lv_aload_n hx hb dX5_see_44 rfl (lv_at hl 0 rfl) ?_
  refine g_get (TT := TX5) hc hw inX5_see_X5 0 9 1 rfl rfl (by decide) rfl rfl dX5_see_45 ?_
  refine lv_bipush (v := 6) hx hb dX5_see_48 (by decide) ?_
  refine lv_icmp_lt (tgt := 56) hx hb dX5_see_50 (by decide) (fun c_50 => ?_) (fun c_50 => absurd (by decide) c_50)
  refine lv_aload_n hx hb dX5_see_56 rfl (lv_at hl 0 rfl) ?_
  refine g_get (TT := TX5) hc hw inX5_see_X5 0 7 2 rfl rfl (by decide) rfl rfl dX5_see_57 ?_
  refine lv_aload_n hx hb dX5_see_60 rfl (lv_at hl 0 rfl) ?_
  refine g_get (TT := TX5) hc hw inX5_see_X5 0 9 1 rfl rfl (by decide) rfl rfl dX5_see_61 ?_
  refine g_qld hc hw 1 5 0 rfl rfl rfl (by omega) (by decide) (r := .ref (gA 0)) rfl dX5_see_64 ?_
  refine lv_iload_n hx hb dX5_see_65 rfl (lv_at hl 1 rfl) ?_
  refine lv_iload_n hx hb dX5_see_66 rfl (lv_at hl 2 rfl) ?_
  refine lv_iload_n hx hb dX5_see_67 rfl (lv_at hl 3 rfl) ?_
  refine lv_iload hx hb dX5_see_68 (lv_at hl 4 rfl) ?_
  refine g_cVN (As := [.int (nI n), .int (nI w), .int (nI v), .int (nI b8)]) (n := 4) (rest := []) (wc := [((gA 0), .inr (3, [q0, q1, q2, q3]))]) (w1 := [((gA 0), .inr (3, [.int (nI n), .int (nI w), .int (nI v), .int (b2i (decide ((nI b8) = 1)))]))]) (bytes := cX3_fill) (maxL := 5) (ret := none) hc hw hl.1 (m_X3_fill (l := l) (D := D) (E := E) (T := T) (gA 0) q0 q1 q2 q3 n w v (nI b8)) ggX5_see_X3_fill rfl 77 rfl 8 10 11 rfl rfl rfl (by decide +kernel) (by rw [hR]; exact ⟨Nat.le_of_ble_eq_true rfl, Nat.le_of_ble_eq_true rfl⟩) [2] 2 3 rfl rfl (by decide) rfl [(gA 0)] rfl rfl rfl rfl (Nat.le_of_ble_eq_true rfl) dX5_see_70 ⟨Nat.zero_le _, Nat.zero_le _⟩ (fun H locs hw => ?_)
  have hw : g_W D A s [(ob, .inr (5, [z0, z1, z2, z3, z4, z5, z6, .ref ga, z8, .int (nI 0), z10])), (ga, .inl (E 5, 6, .inr (.inr (.inr (.inr (fun k => some (gA k))))))), ((gA 0), .inr (3, [.int (nI n), .int (nI w), .int (nI v), .int (b2i (decide ((nI b8) = 1)))]))] H locs := hw
  refine lv_aload_n hx hb dX5_see_73 rfl (lv_at hl 0 rfl) ?_
  refine lv_dup hx hb dX5_see_74 rfl ?_
  refine g_get (TT := TX5) hc hw inX5_see_X5 0 9 1 rfl rfl (by decide) rfl rfl dX5_see_75 ?_
  refine lv_iconst (v := 1) hx hb dX5_see_78 (by decide) ?_
  refine lv_iadd hx hb dX5_see_79 ?_
  refine W.eq (congrArg (fun z => F0 m 80 ls (.int z :: [.ref ob])) (show ((nI 0) + 1 : Int32) = nI (0 + 1) from rfl)) ?_
  refine g_put (TT := TX5) hc hw inX5_see_X5 tyX5 tyX5_ok nmX5 0 9 1 rfl rfl (by decide) rfl rfl rfl rfl (Nat.le_of_ble_eq_true rfl) dX5_see_80 (fun H locs hw => ?_)
  have hw : g_W D A s [(ob, .inr (5, [z0, z1, z2, z3, z4, z5, z6, .ref ga, z8, .int (nI (0 + 1)), z10])), (ga, .inl (E 5, 6, .inr (.inr (.inr (.inr (fun k => some (gA k))))))), ((gA 0), .inr (3, [.int (nI n), .int (nI w), .int (nI v), .int (b2i (decide ((nI b8) = 1)))]))] H locs := hw
  refine lv_aload_n hx hb dX5_see_83 rfl (lv_at hl 0 rfl) ?_
  refine g_get (TT := TX5) hc hw inX5_see_X5 0 9 1 rfl rfl (by decide) rfl rfl dX5_see_84 ?_
  exact g_iret hQ hc hw hr rfl rfl dX5_see_87

set_option maxRecDepth 100000 in
set_option maxHeartbeats 4000000 in
theorem m_X5_see_ok1 {l : Launch} {D : va_G} {E : Nat → ClassId} {T : Nat → Nat} (ob : Nat) (n : Nat) (w : Nat) (v : Nat) (b8 : Nat) (ga : Nat) (z0 : Value) (z1 : Value) (z2 : Value) (z3 : Value) (z4 : Value) (z5 : Value) (z6 : Value) (z8 : Value) (z10 : Value) (gA : Nat → Nat) (q0 : Value) (q1 : Value) (q2 : Value) (q3 : Value) (hn : n ≤ 9) (hw9 : w ≤ 2) (hv9 : v ≤ grN w) (hg9 : grN w ≤ 99) (hb9 : b8 ≤ 1) : g_M l D E T yX5_see wsX5_see 1 24 [.ref ob, .int (nI n), .int (nI w), .int (nI v), .int (nI b8)] [(ob, .inr (5, [z0, z1, z2, z3, z4, z5, z6, .ref ga, z8, .int (nI 1), z10])), (ga, .inl (E 5, 6, .inr (.inr (.inr (.inr (fun k => some (gA k))))))), ((gA 1), .inr (3, [q0, q1, q2, q3]))] [(ob, .inr (5, [z0, z1, z2, z3, z4, z5, z6, .ref ga, z8, .int (nI (1 + 1)), z10])), (ga, .inl (E 5, 6, .inr (.inr (.inr (.inr (fun k => some (gA k))))))), ((gA 1), .inr (3, [.int (nI n), .int (nI w), .int (nI v), .int (b2i (decide (nI b8 = 1)))]))] (some (.int (nI (1 + 1)))) := by
  refine g_M.of (cc := cX5_see) (nL := 5) (ret := (some .int)) (own := RX5) (lv := [(0, .ref ob), (1, .int (nI n)), (2, .int (nI w)), (3, .int (nI v)), (4, .int (nI b8))]) (by decide) rfl rfl (Nat.le_of_ble_eq_true rfl) rfl ?_
  intro p e R s m args below meth c A Q H locs ls hR hQ hc hr hw hl
  have hx := hc.1
  have hb := hc.2.1
  have hts := hc.2.2.2.1
  have hown := hc.2.2.2.2.1
  refine lv_iload_n hx hb dX5_see_0 rfl (lv_at hl 1 rfl) ?_
  refine lv_iconst (v := 0) hx hb dX5_see_1 (by decide) ?_
  refine lv_bipush (v := 9) hx hb dX5_see_2 (by decide) ?_
  refine g_cS (As := [.int (nI n), .int 0, .int 9]) (n := 3) (rest := []) (wc := []) (w1 := []) (bytes := cX5_outside) (maxL := 3) (ret := (some .boolean)) hc hw hl.1 (m_X5_outside (l := l) (D := D) (E := E) (T := T) (nI n) 0 9) gX5_see_X5_outside rfl (by decide +kernel) (by rw [hR]; exact ⟨Nat.le_of_ble_eq_true rfl, Nat.le_of_ble_eq_true rfl⟩) [] (by decide) rfl [] rfl rfl rfl rfl (Nat.le_of_ble_eq_true rfl) dX5_see_4 ⟨Nat.zero_le _, Nat.zero_le _⟩ (fun H locs hw => ?_)
  have hw : g_W D A s [(ob, .inr (5, [z0, z1, z2, z3, z4, z5, z6, .ref ga, z8, .int (nI 1), z10])), (ga, .inl (E 5, 6, .inr (.inr (.inr (.inr (fun k => some (gA k))))))), ((gA 1), .inr (3, [q0, q1, q2, q3]))] H locs := hw
  refine W.eq (congrArg (fun z => F0 m 7 ls (.int z :: [])) (show (b2i (outB (nI n) 0 9) : Int32) = 0 from (congrArg b2i (out_nf (n := n) (a := 0) (b := 9) (by omega) hn (by decide))))) ?_
  refine lv_if_ne (tgt := 41) hx hb dX5_see_7 (by decide) (fun c_7 => absurd c_7 (by decide)) (fun c_7 => ?_)
  refine lv_iload_n hx hb dX5_see_10 rfl (lv_at hl 2 rfl) ?_
  refine lv_iconst (v := 0) hx hb dX5_see_11 (by decide) ?_
  refine lv_iconst (v := 2) hx hb dX5_see_12 (by decide) ?_
  refine g_cS (As := [.int (nI w), .int 0, .int 2]) (n := 3) (rest := []) (wc := []) (w1 := []) (bytes := cX5_outside) (maxL := 3) (ret := (some .boolean)) hc hw hl.1 (m_X5_outside (l := l) (D := D) (E := E) (T := T) (nI w) 0 2) gX5_see_X5_outside rfl (by decide +kernel) (by rw [hR]; exact ⟨Nat.le_of_ble_eq_true rfl, Nat.le_of_ble_eq_true rfl⟩) [] (by decide) rfl [] rfl rfl rfl rfl (Nat.le_of_ble_eq_true rfl) dX5_see_13 ⟨Nat.zero_le _, Nat.zero_le _⟩ (fun H locs hw => ?_)
  have hw : g_W D A s [(ob, .inr (5, [z0, z1, z2, z3, z4, z5, z6, .ref ga, z8, .int (nI 1), z10])), (ga, .inl (E 5, 6, .inr (.inr (.inr (.inr (fun k => some (gA k))))))), ((gA 1), .inr (3, [q0, q1, q2, q3]))] H locs := hw
  refine W.eq (congrArg (fun z => F0 m 16 ls (.int z :: [])) (show (b2i (outB (nI w) 0 2) : Int32) = 0 from (congrArg b2i (out_nf (n := w) (a := 0) (b := 2) (by omega) hw9 (by decide))))) ?_
  refine lv_if_ne (tgt := 41) hx hb dX5_see_16 (by decide) (fun c_16 => absurd c_16 (by decide)) (fun c_16 => ?_)
  refine lv_iload_n hx hb dX5_see_19 rfl (lv_at hl 3 rfl) ?_
  refine lv_iconst (v := 0) hx hb dX5_see_20 (by decide) ?_
  refine lv_iload_n hx hb dX5_see_21 rfl (lv_at hl 2 rfl) ?_
  refine g_cSN (As := [.int (nI w)]) (n := 1) (rest := [.int 0, .int (nI v)]) (wc := []) (w1 := []) (bytes := cX3_greatest) (maxL := 1) (ret := (some .int)) hc hw hl.1 (m_X3_greatest (l := l) (D := D) (E := E) (T := T) w (by first | assumption | omega | decide)) ggX5_see_X3_greatest rfl 76 rfl 8 7 rfl rfl (by decide +kernel) (by rw [hR]; exact ⟨Nat.le_of_ble_eq_true rfl, Nat.le_of_ble_eq_true rfl⟩) [] (by decide) rfl [] rfl rfl rfl rfl (Nat.le_of_ble_eq_true rfl) dX5_see_22 ⟨Nat.zero_le _, Nat.zero_le _⟩ (fun H locs hw => ?_)
  have hw : g_W D A s [(ob, .inr (5, [z0, z1, z2, z3, z4, z5, z6, .ref ga, z8, .int (nI 1), z10])), (ga, .inl (E 5, 6, .inr (.inr (.inr (.inr (fun k => some (gA k))))))), ((gA 1), .inr (3, [q0, q1, q2, q3]))] H locs := hw
  refine g_cS (As := [.int (nI v), .int 0, .int (nI (grN w))]) (n := 3) (rest := []) (wc := []) (w1 := []) (bytes := cX5_outside) (maxL := 3) (ret := (some .boolean)) hc hw hl.1 (m_X5_outside (l := l) (D := D) (E := E) (T := T) (nI v) 0 (nI (grN w))) gX5_see_X5_outside rfl (by decide +kernel) (by rw [hR]; exact ⟨Nat.le_of_ble_eq_true rfl, Nat.le_of_ble_eq_true rfl⟩) [] (by decide) rfl [] rfl rfl rfl rfl (Nat.le_of_ble_eq_true rfl) dX5_see_25 ⟨Nat.zero_le _, Nat.zero_le _⟩ (fun H locs hw => ?_)
  have hw : g_W D A s [(ob, .inr (5, [z0, z1, z2, z3, z4, z5, z6, .ref ga, z8, .int (nI 1), z10])), (ga, .inl (E 5, 6, .inr (.inr (.inr (.inr (fun k => some (gA k))))))), ((gA 1), .inr (3, [q0, q1, q2, q3]))] H locs := hw
  refine W.eq (congrArg (fun z => F0 m 28 ls (.int z :: [])) (show (b2i (outB (nI v) 0 (nI (grN w))) : Int32) = 0 from (congrArg b2i (out_nf (n := v) (a := 0) (b := grN w) (by omega) hv9 (by omega))))) ?_
  refine lv_if_ne (tgt := 41) hx hb dX5_see_28 (by decide) (fun c_28 => absurd c_28 (by decide)) (fun c_28 => ?_)
  refine lv_iload hx hb dX5_see_31 (lv_at hl 4 rfl) ?_
  refine lv_iconst (v := 0) hx hb dX5_see_33 (by decide) ?_
  refine lv_iconst (v := 1) hx hb dX5_see_34 (by decide) ?_
  refine g_cS (As := [.int (nI b8), .int 0, .int 1]) (n := 3) (rest := []) (wc := []) (w1 := []) (bytes := cX5_outside) (maxL := 3) (ret := (some .boolean)) hc hw hl.1 (m_X5_outside (l := l) (D := D) (E := E) (T := T) (nI b8) 0 1) gX5_see_X5_outside rfl (by decide +kernel) (by rw [hR]; exact ⟨Nat.le_of_ble_eq_true rfl, Nat.le_of_ble_eq_true rfl⟩) [] (by decide) rfl [] rfl rfl rfl rfl (Nat.le_of_ble_eq_true rfl) dX5_see_35 ⟨Nat.zero_le _, Nat.zero_le _⟩ (fun H locs hw => ?_)
  have hw : g_W D A s [(ob, .inr (5, [z0, z1, z2, z3, z4, z5, z6, .ref ga, z8, .int (nI 1), z10])), (ga, .inl (E 5, 6, .inr (.inr (.inr (.inr (fun k => some (gA k))))))), ((gA 1), .inr (3, [q0, q1, q2, q3]))] H locs := hw
  refine W.eq (congrArg (fun z => F0 m 38 ls (.int z :: [])) (show (b2i (outB (nI b8) 0 1) : Int32) = 0 from (congrArg b2i (out_nf (n := b8) (a := 0) (b := 1) (by omega) hb9 (by decide))))) ?_
  refine lv_if_eq (tgt := 44) hx hb dX5_see_38 (by decide) (fun c_38 => ?_) (fun c_38 => absurd c_38 (by decide))
  refine lv_aload_n hx hb dX5_see_44 rfl (lv_at hl 0 rfl) ?_
  refine g_get (TT := TX5) hc hw inX5_see_X5 0 9 1 rfl rfl (by decide) rfl rfl dX5_see_45 ?_
  refine lv_bipush (v := 6) hx hb dX5_see_48 (by decide) ?_
  refine lv_icmp_lt (tgt := 56) hx hb dX5_see_50 (by decide) (fun c_50 => ?_) (fun c_50 => absurd (by decide) c_50)
  refine lv_aload_n hx hb dX5_see_56 rfl (lv_at hl 0 rfl) ?_
  refine g_get (TT := TX5) hc hw inX5_see_X5 0 7 2 rfl rfl (by decide) rfl rfl dX5_see_57 ?_
  refine lv_aload_n hx hb dX5_see_60 rfl (lv_at hl 0 rfl) ?_
  refine g_get (TT := TX5) hc hw inX5_see_X5 0 9 1 rfl rfl (by decide) rfl rfl dX5_see_61 ?_
  refine g_qld hc hw 1 5 1 rfl rfl rfl (by omega) (by decide) (r := .ref (gA 1)) rfl dX5_see_64 ?_
  refine lv_iload_n hx hb dX5_see_65 rfl (lv_at hl 1 rfl) ?_
  refine lv_iload_n hx hb dX5_see_66 rfl (lv_at hl 2 rfl) ?_
  refine lv_iload_n hx hb dX5_see_67 rfl (lv_at hl 3 rfl) ?_
  refine lv_iload hx hb dX5_see_68 (lv_at hl 4 rfl) ?_
  refine g_cVN (As := [.int (nI n), .int (nI w), .int (nI v), .int (nI b8)]) (n := 4) (rest := []) (wc := [((gA 1), .inr (3, [q0, q1, q2, q3]))]) (w1 := [((gA 1), .inr (3, [.int (nI n), .int (nI w), .int (nI v), .int (b2i (decide ((nI b8) = 1)))]))]) (bytes := cX3_fill) (maxL := 5) (ret := none) hc hw hl.1 (m_X3_fill (l := l) (D := D) (E := E) (T := T) (gA 1) q0 q1 q2 q3 n w v (nI b8)) ggX5_see_X3_fill rfl 77 rfl 8 10 11 rfl rfl rfl (by decide +kernel) (by rw [hR]; exact ⟨Nat.le_of_ble_eq_true rfl, Nat.le_of_ble_eq_true rfl⟩) [2] 2 3 rfl rfl (by decide) rfl [(gA 1)] rfl rfl rfl rfl (Nat.le_of_ble_eq_true rfl) dX5_see_70 ⟨Nat.zero_le _, Nat.zero_le _⟩ (fun H locs hw => ?_)
  have hw : g_W D A s [(ob, .inr (5, [z0, z1, z2, z3, z4, z5, z6, .ref ga, z8, .int (nI 1), z10])), (ga, .inl (E 5, 6, .inr (.inr (.inr (.inr (fun k => some (gA k))))))), ((gA 1), .inr (3, [.int (nI n), .int (nI w), .int (nI v), .int (b2i (decide ((nI b8) = 1)))]))] H locs := hw
  refine lv_aload_n hx hb dX5_see_73 rfl (lv_at hl 0 rfl) ?_
  refine lv_dup hx hb dX5_see_74 rfl ?_
  refine g_get (TT := TX5) hc hw inX5_see_X5 0 9 1 rfl rfl (by decide) rfl rfl dX5_see_75 ?_
  refine lv_iconst (v := 1) hx hb dX5_see_78 (by decide) ?_
  refine lv_iadd hx hb dX5_see_79 ?_
  refine W.eq (congrArg (fun z => F0 m 80 ls (.int z :: [.ref ob])) (show ((nI 1) + 1 : Int32) = nI (1 + 1) from rfl)) ?_
  refine g_put (TT := TX5) hc hw inX5_see_X5 tyX5 tyX5_ok nmX5 0 9 1 rfl rfl (by decide) rfl rfl rfl rfl (Nat.le_of_ble_eq_true rfl) dX5_see_80 (fun H locs hw => ?_)
  have hw : g_W D A s [(ob, .inr (5, [z0, z1, z2, z3, z4, z5, z6, .ref ga, z8, .int (nI (1 + 1)), z10])), (ga, .inl (E 5, 6, .inr (.inr (.inr (.inr (fun k => some (gA k))))))), ((gA 1), .inr (3, [.int (nI n), .int (nI w), .int (nI v), .int (b2i (decide ((nI b8) = 1)))]))] H locs := hw
  refine lv_aload_n hx hb dX5_see_83 rfl (lv_at hl 0 rfl) ?_
  refine g_get (TT := TX5) hc hw inX5_see_X5 0 9 1 rfl rfl (by decide) rfl rfl dX5_see_84 ?_
  exact g_iret hQ hc hw hr rfl rfl dX5_see_87

set_option maxRecDepth 100000 in
set_option maxHeartbeats 4000000 in
theorem m_X5_see_ok2 {l : Launch} {D : va_G} {E : Nat → ClassId} {T : Nat → Nat} (ob : Nat) (n : Nat) (w : Nat) (v : Nat) (b8 : Nat) (ga : Nat) (z0 : Value) (z1 : Value) (z2 : Value) (z3 : Value) (z4 : Value) (z5 : Value) (z6 : Value) (z8 : Value) (z10 : Value) (gA : Nat → Nat) (q0 : Value) (q1 : Value) (q2 : Value) (q3 : Value) (hn : n ≤ 9) (hw9 : w ≤ 2) (hv9 : v ≤ grN w) (hg9 : grN w ≤ 99) (hb9 : b8 ≤ 1) : g_M l D E T yX5_see wsX5_see 1 24 [.ref ob, .int (nI n), .int (nI w), .int (nI v), .int (nI b8)] [(ob, .inr (5, [z0, z1, z2, z3, z4, z5, z6, .ref ga, z8, .int (nI 2), z10])), (ga, .inl (E 5, 6, .inr (.inr (.inr (.inr (fun k => some (gA k))))))), ((gA 2), .inr (3, [q0, q1, q2, q3]))] [(ob, .inr (5, [z0, z1, z2, z3, z4, z5, z6, .ref ga, z8, .int (nI (2 + 1)), z10])), (ga, .inl (E 5, 6, .inr (.inr (.inr (.inr (fun k => some (gA k))))))), ((gA 2), .inr (3, [.int (nI n), .int (nI w), .int (nI v), .int (b2i (decide (nI b8 = 1)))]))] (some (.int (nI (2 + 1)))) := by
  refine g_M.of (cc := cX5_see) (nL := 5) (ret := (some .int)) (own := RX5) (lv := [(0, .ref ob), (1, .int (nI n)), (2, .int (nI w)), (3, .int (nI v)), (4, .int (nI b8))]) (by decide) rfl rfl (Nat.le_of_ble_eq_true rfl) rfl ?_
  intro p e R s m args below meth c A Q H locs ls hR hQ hc hr hw hl
  have hx := hc.1
  have hb := hc.2.1
  have hts := hc.2.2.2.1
  have hown := hc.2.2.2.2.1
  refine lv_iload_n hx hb dX5_see_0 rfl (lv_at hl 1 rfl) ?_
  refine lv_iconst (v := 0) hx hb dX5_see_1 (by decide) ?_
  refine lv_bipush (v := 9) hx hb dX5_see_2 (by decide) ?_
  refine g_cS (As := [.int (nI n), .int 0, .int 9]) (n := 3) (rest := []) (wc := []) (w1 := []) (bytes := cX5_outside) (maxL := 3) (ret := (some .boolean)) hc hw hl.1 (m_X5_outside (l := l) (D := D) (E := E) (T := T) (nI n) 0 9) gX5_see_X5_outside rfl (by decide +kernel) (by rw [hR]; exact ⟨Nat.le_of_ble_eq_true rfl, Nat.le_of_ble_eq_true rfl⟩) [] (by decide) rfl [] rfl rfl rfl rfl (Nat.le_of_ble_eq_true rfl) dX5_see_4 ⟨Nat.zero_le _, Nat.zero_le _⟩ (fun H locs hw => ?_)
  have hw : g_W D A s [(ob, .inr (5, [z0, z1, z2, z3, z4, z5, z6, .ref ga, z8, .int (nI 2), z10])), (ga, .inl (E 5, 6, .inr (.inr (.inr (.inr (fun k => some (gA k))))))), ((gA 2), .inr (3, [q0, q1, q2, q3]))] H locs := hw
  refine W.eq (congrArg (fun z => F0 m 7 ls (.int z :: [])) (show (b2i (outB (nI n) 0 9) : Int32) = 0 from (congrArg b2i (out_nf (n := n) (a := 0) (b := 9) (by omega) hn (by decide))))) ?_
  refine lv_if_ne (tgt := 41) hx hb dX5_see_7 (by decide) (fun c_7 => absurd c_7 (by decide)) (fun c_7 => ?_)
  refine lv_iload_n hx hb dX5_see_10 rfl (lv_at hl 2 rfl) ?_
  refine lv_iconst (v := 0) hx hb dX5_see_11 (by decide) ?_
  refine lv_iconst (v := 2) hx hb dX5_see_12 (by decide) ?_
  refine g_cS (As := [.int (nI w), .int 0, .int 2]) (n := 3) (rest := []) (wc := []) (w1 := []) (bytes := cX5_outside) (maxL := 3) (ret := (some .boolean)) hc hw hl.1 (m_X5_outside (l := l) (D := D) (E := E) (T := T) (nI w) 0 2) gX5_see_X5_outside rfl (by decide +kernel) (by rw [hR]; exact ⟨Nat.le_of_ble_eq_true rfl, Nat.le_of_ble_eq_true rfl⟩) [] (by decide) rfl [] rfl rfl rfl rfl (Nat.le_of_ble_eq_true rfl) dX5_see_13 ⟨Nat.zero_le _, Nat.zero_le _⟩ (fun H locs hw => ?_)
  have hw : g_W D A s [(ob, .inr (5, [z0, z1, z2, z3, z4, z5, z6, .ref ga, z8, .int (nI 2), z10])), (ga, .inl (E 5, 6, .inr (.inr (.inr (.inr (fun k => some (gA k))))))), ((gA 2), .inr (3, [q0, q1, q2, q3]))] H locs := hw
  refine W.eq (congrArg (fun z => F0 m 16 ls (.int z :: [])) (show (b2i (outB (nI w) 0 2) : Int32) = 0 from (congrArg b2i (out_nf (n := w) (a := 0) (b := 2) (by omega) hw9 (by decide))))) ?_
  refine lv_if_ne (tgt := 41) hx hb dX5_see_16 (by decide) (fun c_16 => absurd c_16 (by decide)) (fun c_16 => ?_)
  refine lv_iload_n hx hb dX5_see_19 rfl (lv_at hl 3 rfl) ?_
  refine lv_iconst (v := 0) hx hb dX5_see_20 (by decide) ?_
  refine lv_iload_n hx hb dX5_see_21 rfl (lv_at hl 2 rfl) ?_
  refine g_cSN (As := [.int (nI w)]) (n := 1) (rest := [.int 0, .int (nI v)]) (wc := []) (w1 := []) (bytes := cX3_greatest) (maxL := 1) (ret := (some .int)) hc hw hl.1 (m_X3_greatest (l := l) (D := D) (E := E) (T := T) w (by first | assumption | omega | decide)) ggX5_see_X3_greatest rfl 76 rfl 8 7 rfl rfl (by decide +kernel) (by rw [hR]; exact ⟨Nat.le_of_ble_eq_true rfl, Nat.le_of_ble_eq_true rfl⟩) [] (by decide) rfl [] rfl rfl rfl rfl (Nat.le_of_ble_eq_true rfl) dX5_see_22 ⟨Nat.zero_le _, Nat.zero_le _⟩ (fun H locs hw => ?_)
  have hw : g_W D A s [(ob, .inr (5, [z0, z1, z2, z3, z4, z5, z6, .ref ga, z8, .int (nI 2), z10])), (ga, .inl (E 5, 6, .inr (.inr (.inr (.inr (fun k => some (gA k))))))), ((gA 2), .inr (3, [q0, q1, q2, q3]))] H locs := hw
  refine g_cS (As := [.int (nI v), .int 0, .int (nI (grN w))]) (n := 3) (rest := []) (wc := []) (w1 := []) (bytes := cX5_outside) (maxL := 3) (ret := (some .boolean)) hc hw hl.1 (m_X5_outside (l := l) (D := D) (E := E) (T := T) (nI v) 0 (nI (grN w))) gX5_see_X5_outside rfl (by decide +kernel) (by rw [hR]; exact ⟨Nat.le_of_ble_eq_true rfl, Nat.le_of_ble_eq_true rfl⟩) [] (by decide) rfl [] rfl rfl rfl rfl (Nat.le_of_ble_eq_true rfl) dX5_see_25 ⟨Nat.zero_le _, Nat.zero_le _⟩ (fun H locs hw => ?_)
  have hw : g_W D A s [(ob, .inr (5, [z0, z1, z2, z3, z4, z5, z6, .ref ga, z8, .int (nI 2), z10])), (ga, .inl (E 5, 6, .inr (.inr (.inr (.inr (fun k => some (gA k))))))), ((gA 2), .inr (3, [q0, q1, q2, q3]))] H locs := hw
  refine W.eq (congrArg (fun z => F0 m 28 ls (.int z :: [])) (show (b2i (outB (nI v) 0 (nI (grN w))) : Int32) = 0 from (congrArg b2i (out_nf (n := v) (a := 0) (b := grN w) (by omega) hv9 (by omega))))) ?_
  refine lv_if_ne (tgt := 41) hx hb dX5_see_28 (by decide) (fun c_28 => absurd c_28 (by decide)) (fun c_28 => ?_)
  refine lv_iload hx hb dX5_see_31 (lv_at hl 4 rfl) ?_
  refine lv_iconst (v := 0) hx hb dX5_see_33 (by decide) ?_
  refine lv_iconst (v := 1) hx hb dX5_see_34 (by decide) ?_
  refine g_cS (As := [.int (nI b8), .int 0, .int 1]) (n := 3) (rest := []) (wc := []) (w1 := []) (bytes := cX5_outside) (maxL := 3) (ret := (some .boolean)) hc hw hl.1 (m_X5_outside (l := l) (D := D) (E := E) (T := T) (nI b8) 0 1) gX5_see_X5_outside rfl (by decide +kernel) (by rw [hR]; exact ⟨Nat.le_of_ble_eq_true rfl, Nat.le_of_ble_eq_true rfl⟩) [] (by decide) rfl [] rfl rfl rfl rfl (Nat.le_of_ble_eq_true rfl) dX5_see_35 ⟨Nat.zero_le _, Nat.zero_le _⟩ (fun H locs hw => ?_)
  have hw : g_W D A s [(ob, .inr (5, [z0, z1, z2, z3, z4, z5, z6, .ref ga, z8, .int (nI 2), z10])), (ga, .inl (E 5, 6, .inr (.inr (.inr (.inr (fun k => some (gA k))))))), ((gA 2), .inr (3, [q0, q1, q2, q3]))] H locs := hw
  refine W.eq (congrArg (fun z => F0 m 38 ls (.int z :: [])) (show (b2i (outB (nI b8) 0 1) : Int32) = 0 from (congrArg b2i (out_nf (n := b8) (a := 0) (b := 1) (by omega) hb9 (by decide))))) ?_
  refine lv_if_eq (tgt := 44) hx hb dX5_see_38 (by decide) (fun c_38 => ?_) (fun c_38 => absurd c_38 (by decide))
  refine lv_aload_n hx hb dX5_see_44 rfl (lv_at hl 0 rfl) ?_
  refine g_get (TT := TX5) hc hw inX5_see_X5 0 9 1 rfl rfl (by decide) rfl rfl dX5_see_45 ?_
  refine lv_bipush (v := 6) hx hb dX5_see_48 (by decide) ?_
  refine lv_icmp_lt (tgt := 56) hx hb dX5_see_50 (by decide) (fun c_50 => ?_) (fun c_50 => absurd (by decide) c_50)
  refine lv_aload_n hx hb dX5_see_56 rfl (lv_at hl 0 rfl) ?_
  refine g_get (TT := TX5) hc hw inX5_see_X5 0 7 2 rfl rfl (by decide) rfl rfl dX5_see_57 ?_
  refine lv_aload_n hx hb dX5_see_60 rfl (lv_at hl 0 rfl) ?_
  refine g_get (TT := TX5) hc hw inX5_see_X5 0 9 1 rfl rfl (by decide) rfl rfl dX5_see_61 ?_
  refine g_qld hc hw 1 5 2 rfl rfl rfl (by omega) (by decide) (r := .ref (gA 2)) rfl dX5_see_64 ?_
  refine lv_iload_n hx hb dX5_see_65 rfl (lv_at hl 1 rfl) ?_
  refine lv_iload_n hx hb dX5_see_66 rfl (lv_at hl 2 rfl) ?_
  refine lv_iload_n hx hb dX5_see_67 rfl (lv_at hl 3 rfl) ?_
  refine lv_iload hx hb dX5_see_68 (lv_at hl 4 rfl) ?_
  refine g_cVN (As := [.int (nI n), .int (nI w), .int (nI v), .int (nI b8)]) (n := 4) (rest := []) (wc := [((gA 2), .inr (3, [q0, q1, q2, q3]))]) (w1 := [((gA 2), .inr (3, [.int (nI n), .int (nI w), .int (nI v), .int (b2i (decide ((nI b8) = 1)))]))]) (bytes := cX3_fill) (maxL := 5) (ret := none) hc hw hl.1 (m_X3_fill (l := l) (D := D) (E := E) (T := T) (gA 2) q0 q1 q2 q3 n w v (nI b8)) ggX5_see_X3_fill rfl 77 rfl 8 10 11 rfl rfl rfl (by decide +kernel) (by rw [hR]; exact ⟨Nat.le_of_ble_eq_true rfl, Nat.le_of_ble_eq_true rfl⟩) [2] 2 3 rfl rfl (by decide) rfl [(gA 2)] rfl rfl rfl rfl (Nat.le_of_ble_eq_true rfl) dX5_see_70 ⟨Nat.zero_le _, Nat.zero_le _⟩ (fun H locs hw => ?_)
  have hw : g_W D A s [(ob, .inr (5, [z0, z1, z2, z3, z4, z5, z6, .ref ga, z8, .int (nI 2), z10])), (ga, .inl (E 5, 6, .inr (.inr (.inr (.inr (fun k => some (gA k))))))), ((gA 2), .inr (3, [.int (nI n), .int (nI w), .int (nI v), .int (b2i (decide ((nI b8) = 1)))]))] H locs := hw
  refine lv_aload_n hx hb dX5_see_73 rfl (lv_at hl 0 rfl) ?_
  refine lv_dup hx hb dX5_see_74 rfl ?_
  refine g_get (TT := TX5) hc hw inX5_see_X5 0 9 1 rfl rfl (by decide) rfl rfl dX5_see_75 ?_
  refine lv_iconst (v := 1) hx hb dX5_see_78 (by decide) ?_
  refine lv_iadd hx hb dX5_see_79 ?_
  refine W.eq (congrArg (fun z => F0 m 80 ls (.int z :: [.ref ob])) (show ((nI 2) + 1 : Int32) = nI (2 + 1) from rfl)) ?_
  refine g_put (TT := TX5) hc hw inX5_see_X5 tyX5 tyX5_ok nmX5 0 9 1 rfl rfl (by decide) rfl rfl rfl rfl (Nat.le_of_ble_eq_true rfl) dX5_see_80 (fun H locs hw => ?_)
  have hw : g_W D A s [(ob, .inr (5, [z0, z1, z2, z3, z4, z5, z6, .ref ga, z8, .int (nI (2 + 1)), z10])), (ga, .inl (E 5, 6, .inr (.inr (.inr (.inr (fun k => some (gA k))))))), ((gA 2), .inr (3, [.int (nI n), .int (nI w), .int (nI v), .int (b2i (decide ((nI b8) = 1)))]))] H locs := hw
  refine lv_aload_n hx hb dX5_see_83 rfl (lv_at hl 0 rfl) ?_
  refine g_get (TT := TX5) hc hw inX5_see_X5 0 9 1 rfl rfl (by decide) rfl rfl dX5_see_84 ?_
  exact g_iret hQ hc hw hr rfl rfl dX5_see_87

set_option maxRecDepth 100000 in
set_option maxHeartbeats 4000000 in
theorem m_X5_see_ok3 {l : Launch} {D : va_G} {E : Nat → ClassId} {T : Nat → Nat} (ob : Nat) (n : Nat) (w : Nat) (v : Nat) (b8 : Nat) (ga : Nat) (z0 : Value) (z1 : Value) (z2 : Value) (z3 : Value) (z4 : Value) (z5 : Value) (z6 : Value) (z8 : Value) (z10 : Value) (gA : Nat → Nat) (q0 : Value) (q1 : Value) (q2 : Value) (q3 : Value) (hn : n ≤ 9) (hw9 : w ≤ 2) (hv9 : v ≤ grN w) (hg9 : grN w ≤ 99) (hb9 : b8 ≤ 1) : g_M l D E T yX5_see wsX5_see 1 24 [.ref ob, .int (nI n), .int (nI w), .int (nI v), .int (nI b8)] [(ob, .inr (5, [z0, z1, z2, z3, z4, z5, z6, .ref ga, z8, .int (nI 3), z10])), (ga, .inl (E 5, 6, .inr (.inr (.inr (.inr (fun k => some (gA k))))))), ((gA 3), .inr (3, [q0, q1, q2, q3]))] [(ob, .inr (5, [z0, z1, z2, z3, z4, z5, z6, .ref ga, z8, .int (nI (3 + 1)), z10])), (ga, .inl (E 5, 6, .inr (.inr (.inr (.inr (fun k => some (gA k))))))), ((gA 3), .inr (3, [.int (nI n), .int (nI w), .int (nI v), .int (b2i (decide (nI b8 = 1)))]))] (some (.int (nI (3 + 1)))) := by
  refine g_M.of (cc := cX5_see) (nL := 5) (ret := (some .int)) (own := RX5) (lv := [(0, .ref ob), (1, .int (nI n)), (2, .int (nI w)), (3, .int (nI v)), (4, .int (nI b8))]) (by decide) rfl rfl (Nat.le_of_ble_eq_true rfl) rfl ?_
  intro p e R s m args below meth c A Q H locs ls hR hQ hc hr hw hl
  have hx := hc.1
  have hb := hc.2.1
  have hts := hc.2.2.2.1
  have hown := hc.2.2.2.2.1
  refine lv_iload_n hx hb dX5_see_0 rfl (lv_at hl 1 rfl) ?_
  refine lv_iconst (v := 0) hx hb dX5_see_1 (by decide) ?_
  refine lv_bipush (v := 9) hx hb dX5_see_2 (by decide) ?_
  refine g_cS (As := [.int (nI n), .int 0, .int 9]) (n := 3) (rest := []) (wc := []) (w1 := []) (bytes := cX5_outside) (maxL := 3) (ret := (some .boolean)) hc hw hl.1 (m_X5_outside (l := l) (D := D) (E := E) (T := T) (nI n) 0 9) gX5_see_X5_outside rfl (by decide +kernel) (by rw [hR]; exact ⟨Nat.le_of_ble_eq_true rfl, Nat.le_of_ble_eq_true rfl⟩) [] (by decide) rfl [] rfl rfl rfl rfl (Nat.le_of_ble_eq_true rfl) dX5_see_4 ⟨Nat.zero_le _, Nat.zero_le _⟩ (fun H locs hw => ?_)
  have hw : g_W D A s [(ob, .inr (5, [z0, z1, z2, z3, z4, z5, z6, .ref ga, z8, .int (nI 3), z10])), (ga, .inl (E 5, 6, .inr (.inr (.inr (.inr (fun k => some (gA k))))))), ((gA 3), .inr (3, [q0, q1, q2, q3]))] H locs := hw
  refine W.eq (congrArg (fun z => F0 m 7 ls (.int z :: [])) (show (b2i (outB (nI n) 0 9) : Int32) = 0 from (congrArg b2i (out_nf (n := n) (a := 0) (b := 9) (by omega) hn (by decide))))) ?_
  refine lv_if_ne (tgt := 41) hx hb dX5_see_7 (by decide) (fun c_7 => absurd c_7 (by decide)) (fun c_7 => ?_)
  refine lv_iload_n hx hb dX5_see_10 rfl (lv_at hl 2 rfl) ?_
  refine lv_iconst (v := 0) hx hb dX5_see_11 (by decide) ?_
  refine lv_iconst (v := 2) hx hb dX5_see_12 (by decide) ?_
  refine g_cS (As := [.int (nI w), .int 0, .int 2]) (n := 3) (rest := []) (wc := []) (w1 := []) (bytes := cX5_outside) (maxL := 3) (ret := (some .boolean)) hc hw hl.1 (m_X5_outside (l := l) (D := D) (E := E) (T := T) (nI w) 0 2) gX5_see_X5_outside rfl (by decide +kernel) (by rw [hR]; exact ⟨Nat.le_of_ble_eq_true rfl, Nat.le_of_ble_eq_true rfl⟩) [] (by decide) rfl [] rfl rfl rfl rfl (Nat.le_of_ble_eq_true rfl) dX5_see_13 ⟨Nat.zero_le _, Nat.zero_le _⟩ (fun H locs hw => ?_)
  have hw : g_W D A s [(ob, .inr (5, [z0, z1, z2, z3, z4, z5, z6, .ref ga, z8, .int (nI 3), z10])), (ga, .inl (E 5, 6, .inr (.inr (.inr (.inr (fun k => some (gA k))))))), ((gA 3), .inr (3, [q0, q1, q2, q3]))] H locs := hw
  refine W.eq (congrArg (fun z => F0 m 16 ls (.int z :: [])) (show (b2i (outB (nI w) 0 2) : Int32) = 0 from (congrArg b2i (out_nf (n := w) (a := 0) (b := 2) (by omega) hw9 (by decide))))) ?_
  refine lv_if_ne (tgt := 41) hx hb dX5_see_16 (by decide) (fun c_16 => absurd c_16 (by decide)) (fun c_16 => ?_)
  refine lv_iload_n hx hb dX5_see_19 rfl (lv_at hl 3 rfl) ?_
  refine lv_iconst (v := 0) hx hb dX5_see_20 (by decide) ?_
  refine lv_iload_n hx hb dX5_see_21 rfl (lv_at hl 2 rfl) ?_
  refine g_cSN (As := [.int (nI w)]) (n := 1) (rest := [.int 0, .int (nI v)]) (wc := []) (w1 := []) (bytes := cX3_greatest) (maxL := 1) (ret := (some .int)) hc hw hl.1 (m_X3_greatest (l := l) (D := D) (E := E) (T := T) w (by first | assumption | omega | decide)) ggX5_see_X3_greatest rfl 76 rfl 8 7 rfl rfl (by decide +kernel) (by rw [hR]; exact ⟨Nat.le_of_ble_eq_true rfl, Nat.le_of_ble_eq_true rfl⟩) [] (by decide) rfl [] rfl rfl rfl rfl (Nat.le_of_ble_eq_true rfl) dX5_see_22 ⟨Nat.zero_le _, Nat.zero_le _⟩ (fun H locs hw => ?_)
  have hw : g_W D A s [(ob, .inr (5, [z0, z1, z2, z3, z4, z5, z6, .ref ga, z8, .int (nI 3), z10])), (ga, .inl (E 5, 6, .inr (.inr (.inr (.inr (fun k => some (gA k))))))), ((gA 3), .inr (3, [q0, q1, q2, q3]))] H locs := hw
  refine g_cS (As := [.int (nI v), .int 0, .int (nI (grN w))]) (n := 3) (rest := []) (wc := []) (w1 := []) (bytes := cX5_outside) (maxL := 3) (ret := (some .boolean)) hc hw hl.1 (m_X5_outside (l := l) (D := D) (E := E) (T := T) (nI v) 0 (nI (grN w))) gX5_see_X5_outside rfl (by decide +kernel) (by rw [hR]; exact ⟨Nat.le_of_ble_eq_true rfl, Nat.le_of_ble_eq_true rfl⟩) [] (by decide) rfl [] rfl rfl rfl rfl (Nat.le_of_ble_eq_true rfl) dX5_see_25 ⟨Nat.zero_le _, Nat.zero_le _⟩ (fun H locs hw => ?_)
  have hw : g_W D A s [(ob, .inr (5, [z0, z1, z2, z3, z4, z5, z6, .ref ga, z8, .int (nI 3), z10])), (ga, .inl (E 5, 6, .inr (.inr (.inr (.inr (fun k => some (gA k))))))), ((gA 3), .inr (3, [q0, q1, q2, q3]))] H locs := hw
  refine W.eq (congrArg (fun z => F0 m 28 ls (.int z :: [])) (show (b2i (outB (nI v) 0 (nI (grN w))) : Int32) = 0 from (congrArg b2i (out_nf (n := v) (a := 0) (b := grN w) (by omega) hv9 (by omega))))) ?_
  refine lv_if_ne (tgt := 41) hx hb dX5_see_28 (by decide) (fun c_28 => absurd c_28 (by decide)) (fun c_28 => ?_)
  refine lv_iload hx hb dX5_see_31 (lv_at hl 4 rfl) ?_
  refine lv_iconst (v := 0) hx hb dX5_see_33 (by decide) ?_
  refine lv_iconst (v := 1) hx hb dX5_see_34 (by decide) ?_
  refine g_cS (As := [.int (nI b8), .int 0, .int 1]) (n := 3) (rest := []) (wc := []) (w1 := []) (bytes := cX5_outside) (maxL := 3) (ret := (some .boolean)) hc hw hl.1 (m_X5_outside (l := l) (D := D) (E := E) (T := T) (nI b8) 0 1) gX5_see_X5_outside rfl (by decide +kernel) (by rw [hR]; exact ⟨Nat.le_of_ble_eq_true rfl, Nat.le_of_ble_eq_true rfl⟩) [] (by decide) rfl [] rfl rfl rfl rfl (Nat.le_of_ble_eq_true rfl) dX5_see_35 ⟨Nat.zero_le _, Nat.zero_le _⟩ (fun H locs hw => ?_)
  have hw : g_W D A s [(ob, .inr (5, [z0, z1, z2, z3, z4, z5, z6, .ref ga, z8, .int (nI 3), z10])), (ga, .inl (E 5, 6, .inr (.inr (.inr (.inr (fun k => some (gA k))))))), ((gA 3), .inr (3, [q0, q1, q2, q3]))] H locs := hw
  refine W.eq (congrArg (fun z => F0 m 38 ls (.int z :: [])) (show (b2i (outB (nI b8) 0 1) : Int32) = 0 from (congrArg b2i (out_nf (n := b8) (a := 0) (b := 1) (by omega) hb9 (by decide))))) ?_
  refine lv_if_eq (tgt := 44) hx hb dX5_see_38 (by decide) (fun c_38 => ?_) (fun c_38 => absurd c_38 (by decide))
  refine lv_aload_n hx hb dX5_see_44 rfl (lv_at hl 0 rfl) ?_
  refine g_get (TT := TX5) hc hw inX5_see_X5 0 9 1 rfl rfl (by decide) rfl rfl dX5_see_45 ?_
  refine lv_bipush (v := 6) hx hb dX5_see_48 (by decide) ?_
  refine lv_icmp_lt (tgt := 56) hx hb dX5_see_50 (by decide) (fun c_50 => ?_) (fun c_50 => absurd (by decide) c_50)
  refine lv_aload_n hx hb dX5_see_56 rfl (lv_at hl 0 rfl) ?_
  refine g_get (TT := TX5) hc hw inX5_see_X5 0 7 2 rfl rfl (by decide) rfl rfl dX5_see_57 ?_
  refine lv_aload_n hx hb dX5_see_60 rfl (lv_at hl 0 rfl) ?_
  refine g_get (TT := TX5) hc hw inX5_see_X5 0 9 1 rfl rfl (by decide) rfl rfl dX5_see_61 ?_
  refine g_qld hc hw 1 5 3 rfl rfl rfl (by omega) (by decide) (r := .ref (gA 3)) rfl dX5_see_64 ?_
  refine lv_iload_n hx hb dX5_see_65 rfl (lv_at hl 1 rfl) ?_
  refine lv_iload_n hx hb dX5_see_66 rfl (lv_at hl 2 rfl) ?_
  refine lv_iload_n hx hb dX5_see_67 rfl (lv_at hl 3 rfl) ?_
  refine lv_iload hx hb dX5_see_68 (lv_at hl 4 rfl) ?_
  refine g_cVN (As := [.int (nI n), .int (nI w), .int (nI v), .int (nI b8)]) (n := 4) (rest := []) (wc := [((gA 3), .inr (3, [q0, q1, q2, q3]))]) (w1 := [((gA 3), .inr (3, [.int (nI n), .int (nI w), .int (nI v), .int (b2i (decide ((nI b8) = 1)))]))]) (bytes := cX3_fill) (maxL := 5) (ret := none) hc hw hl.1 (m_X3_fill (l := l) (D := D) (E := E) (T := T) (gA 3) q0 q1 q2 q3 n w v (nI b8)) ggX5_see_X3_fill rfl 77 rfl 8 10 11 rfl rfl rfl (by decide +kernel) (by rw [hR]; exact ⟨Nat.le_of_ble_eq_true rfl, Nat.le_of_ble_eq_true rfl⟩) [2] 2 3 rfl rfl (by decide) rfl [(gA 3)] rfl rfl rfl rfl (Nat.le_of_ble_eq_true rfl) dX5_see_70 ⟨Nat.zero_le _, Nat.zero_le _⟩ (fun H locs hw => ?_)
  have hw : g_W D A s [(ob, .inr (5, [z0, z1, z2, z3, z4, z5, z6, .ref ga, z8, .int (nI 3), z10])), (ga, .inl (E 5, 6, .inr (.inr (.inr (.inr (fun k => some (gA k))))))), ((gA 3), .inr (3, [.int (nI n), .int (nI w), .int (nI v), .int (b2i (decide ((nI b8) = 1)))]))] H locs := hw
  refine lv_aload_n hx hb dX5_see_73 rfl (lv_at hl 0 rfl) ?_
  refine lv_dup hx hb dX5_see_74 rfl ?_
  refine g_get (TT := TX5) hc hw inX5_see_X5 0 9 1 rfl rfl (by decide) rfl rfl dX5_see_75 ?_
  refine lv_iconst (v := 1) hx hb dX5_see_78 (by decide) ?_
  refine lv_iadd hx hb dX5_see_79 ?_
  refine W.eq (congrArg (fun z => F0 m 80 ls (.int z :: [.ref ob])) (show ((nI 3) + 1 : Int32) = nI (3 + 1) from rfl)) ?_
  refine g_put (TT := TX5) hc hw inX5_see_X5 tyX5 tyX5_ok nmX5 0 9 1 rfl rfl (by decide) rfl rfl rfl rfl (Nat.le_of_ble_eq_true rfl) dX5_see_80 (fun H locs hw => ?_)
  have hw : g_W D A s [(ob, .inr (5, [z0, z1, z2, z3, z4, z5, z6, .ref ga, z8, .int (nI (3 + 1)), z10])), (ga, .inl (E 5, 6, .inr (.inr (.inr (.inr (fun k => some (gA k))))))), ((gA 3), .inr (3, [.int (nI n), .int (nI w), .int (nI v), .int (b2i (decide ((nI b8) = 1)))]))] H locs := hw
  refine lv_aload_n hx hb dX5_see_83 rfl (lv_at hl 0 rfl) ?_
  refine g_get (TT := TX5) hc hw inX5_see_X5 0 9 1 rfl rfl (by decide) rfl rfl dX5_see_84 ?_
  exact g_iret hQ hc hw hr rfl rfl dX5_see_87

set_option maxRecDepth 100000 in
set_option maxHeartbeats 4000000 in
theorem m_X5_see_ok4 {l : Launch} {D : va_G} {E : Nat → ClassId} {T : Nat → Nat} (ob : Nat) (n : Nat) (w : Nat) (v : Nat) (b8 : Nat) (ga : Nat) (z0 : Value) (z1 : Value) (z2 : Value) (z3 : Value) (z4 : Value) (z5 : Value) (z6 : Value) (z8 : Value) (z10 : Value) (gA : Nat → Nat) (q0 : Value) (q1 : Value) (q2 : Value) (q3 : Value) (hn : n ≤ 9) (hw9 : w ≤ 2) (hv9 : v ≤ grN w) (hg9 : grN w ≤ 99) (hb9 : b8 ≤ 1) : g_M l D E T yX5_see wsX5_see 1 24 [.ref ob, .int (nI n), .int (nI w), .int (nI v), .int (nI b8)] [(ob, .inr (5, [z0, z1, z2, z3, z4, z5, z6, .ref ga, z8, .int (nI 4), z10])), (ga, .inl (E 5, 6, .inr (.inr (.inr (.inr (fun k => some (gA k))))))), ((gA 4), .inr (3, [q0, q1, q2, q3]))] [(ob, .inr (5, [z0, z1, z2, z3, z4, z5, z6, .ref ga, z8, .int (nI (4 + 1)), z10])), (ga, .inl (E 5, 6, .inr (.inr (.inr (.inr (fun k => some (gA k))))))), ((gA 4), .inr (3, [.int (nI n), .int (nI w), .int (nI v), .int (b2i (decide (nI b8 = 1)))]))] (some (.int (nI (4 + 1)))) := by
  refine g_M.of (cc := cX5_see) (nL := 5) (ret := (some .int)) (own := RX5) (lv := [(0, .ref ob), (1, .int (nI n)), (2, .int (nI w)), (3, .int (nI v)), (4, .int (nI b8))]) (by decide) rfl rfl (Nat.le_of_ble_eq_true rfl) rfl ?_
  intro p e R s m args below meth c A Q H locs ls hR hQ hc hr hw hl
  have hx := hc.1
  have hb := hc.2.1
  have hts := hc.2.2.2.1
  have hown := hc.2.2.2.2.1
  refine lv_iload_n hx hb dX5_see_0 rfl (lv_at hl 1 rfl) ?_
  refine lv_iconst (v := 0) hx hb dX5_see_1 (by decide) ?_
  refine lv_bipush (v := 9) hx hb dX5_see_2 (by decide) ?_
  refine g_cS (As := [.int (nI n), .int 0, .int 9]) (n := 3) (rest := []) (wc := []) (w1 := []) (bytes := cX5_outside) (maxL := 3) (ret := (some .boolean)) hc hw hl.1 (m_X5_outside (l := l) (D := D) (E := E) (T := T) (nI n) 0 9) gX5_see_X5_outside rfl (by decide +kernel) (by rw [hR]; exact ⟨Nat.le_of_ble_eq_true rfl, Nat.le_of_ble_eq_true rfl⟩) [] (by decide) rfl [] rfl rfl rfl rfl (Nat.le_of_ble_eq_true rfl) dX5_see_4 ⟨Nat.zero_le _, Nat.zero_le _⟩ (fun H locs hw => ?_)
  have hw : g_W D A s [(ob, .inr (5, [z0, z1, z2, z3, z4, z5, z6, .ref ga, z8, .int (nI 4), z10])), (ga, .inl (E 5, 6, .inr (.inr (.inr (.inr (fun k => some (gA k))))))), ((gA 4), .inr (3, [q0, q1, q2, q3]))] H locs := hw
  refine W.eq (congrArg (fun z => F0 m 7 ls (.int z :: [])) (show (b2i (outB (nI n) 0 9) : Int32) = 0 from (congrArg b2i (out_nf (n := n) (a := 0) (b := 9) (by omega) hn (by decide))))) ?_
  refine lv_if_ne (tgt := 41) hx hb dX5_see_7 (by decide) (fun c_7 => absurd c_7 (by decide)) (fun c_7 => ?_)
  refine lv_iload_n hx hb dX5_see_10 rfl (lv_at hl 2 rfl) ?_
  refine lv_iconst (v := 0) hx hb dX5_see_11 (by decide) ?_
  refine lv_iconst (v := 2) hx hb dX5_see_12 (by decide) ?_
  refine g_cS (As := [.int (nI w), .int 0, .int 2]) (n := 3) (rest := []) (wc := []) (w1 := []) (bytes := cX5_outside) (maxL := 3) (ret := (some .boolean)) hc hw hl.1 (m_X5_outside (l := l) (D := D) (E := E) (T := T) (nI w) 0 2) gX5_see_X5_outside rfl (by decide +kernel) (by rw [hR]; exact ⟨Nat.le_of_ble_eq_true rfl, Nat.le_of_ble_eq_true rfl⟩) [] (by decide) rfl [] rfl rfl rfl rfl (Nat.le_of_ble_eq_true rfl) dX5_see_13 ⟨Nat.zero_le _, Nat.zero_le _⟩ (fun H locs hw => ?_)
  have hw : g_W D A s [(ob, .inr (5, [z0, z1, z2, z3, z4, z5, z6, .ref ga, z8, .int (nI 4), z10])), (ga, .inl (E 5, 6, .inr (.inr (.inr (.inr (fun k => some (gA k))))))), ((gA 4), .inr (3, [q0, q1, q2, q3]))] H locs := hw
  refine W.eq (congrArg (fun z => F0 m 16 ls (.int z :: [])) (show (b2i (outB (nI w) 0 2) : Int32) = 0 from (congrArg b2i (out_nf (n := w) (a := 0) (b := 2) (by omega) hw9 (by decide))))) ?_
  refine lv_if_ne (tgt := 41) hx hb dX5_see_16 (by decide) (fun c_16 => absurd c_16 (by decide)) (fun c_16 => ?_)
  refine lv_iload_n hx hb dX5_see_19 rfl (lv_at hl 3 rfl) ?_
  refine lv_iconst (v := 0) hx hb dX5_see_20 (by decide) ?_
  refine lv_iload_n hx hb dX5_see_21 rfl (lv_at hl 2 rfl) ?_
  refine g_cSN (As := [.int (nI w)]) (n := 1) (rest := [.int 0, .int (nI v)]) (wc := []) (w1 := []) (bytes := cX3_greatest) (maxL := 1) (ret := (some .int)) hc hw hl.1 (m_X3_greatest (l := l) (D := D) (E := E) (T := T) w (by first | assumption | omega | decide)) ggX5_see_X3_greatest rfl 76 rfl 8 7 rfl rfl (by decide +kernel) (by rw [hR]; exact ⟨Nat.le_of_ble_eq_true rfl, Nat.le_of_ble_eq_true rfl⟩) [] (by decide) rfl [] rfl rfl rfl rfl (Nat.le_of_ble_eq_true rfl) dX5_see_22 ⟨Nat.zero_le _, Nat.zero_le _⟩ (fun H locs hw => ?_)
  have hw : g_W D A s [(ob, .inr (5, [z0, z1, z2, z3, z4, z5, z6, .ref ga, z8, .int (nI 4), z10])), (ga, .inl (E 5, 6, .inr (.inr (.inr (.inr (fun k => some (gA k))))))), ((gA 4), .inr (3, [q0, q1, q2, q3]))] H locs := hw
  refine g_cS (As := [.int (nI v), .int 0, .int (nI (grN w))]) (n := 3) (rest := []) (wc := []) (w1 := []) (bytes := cX5_outside) (maxL := 3) (ret := (some .boolean)) hc hw hl.1 (m_X5_outside (l := l) (D := D) (E := E) (T := T) (nI v) 0 (nI (grN w))) gX5_see_X5_outside rfl (by decide +kernel) (by rw [hR]; exact ⟨Nat.le_of_ble_eq_true rfl, Nat.le_of_ble_eq_true rfl⟩) [] (by decide) rfl [] rfl rfl rfl rfl (Nat.le_of_ble_eq_true rfl) dX5_see_25 ⟨Nat.zero_le _, Nat.zero_le _⟩ (fun H locs hw => ?_)
  have hw : g_W D A s [(ob, .inr (5, [z0, z1, z2, z3, z4, z5, z6, .ref ga, z8, .int (nI 4), z10])), (ga, .inl (E 5, 6, .inr (.inr (.inr (.inr (fun k => some (gA k))))))), ((gA 4), .inr (3, [q0, q1, q2, q3]))] H locs := hw
  refine W.eq (congrArg (fun z => F0 m 28 ls (.int z :: [])) (show (b2i (outB (nI v) 0 (nI (grN w))) : Int32) = 0 from (congrArg b2i (out_nf (n := v) (a := 0) (b := grN w) (by omega) hv9 (by omega))))) ?_
  refine lv_if_ne (tgt := 41) hx hb dX5_see_28 (by decide) (fun c_28 => absurd c_28 (by decide)) (fun c_28 => ?_)
  refine lv_iload hx hb dX5_see_31 (lv_at hl 4 rfl) ?_
  refine lv_iconst (v := 0) hx hb dX5_see_33 (by decide) ?_
  refine lv_iconst (v := 1) hx hb dX5_see_34 (by decide) ?_
  refine g_cS (As := [.int (nI b8), .int 0, .int 1]) (n := 3) (rest := []) (wc := []) (w1 := []) (bytes := cX5_outside) (maxL := 3) (ret := (some .boolean)) hc hw hl.1 (m_X5_outside (l := l) (D := D) (E := E) (T := T) (nI b8) 0 1) gX5_see_X5_outside rfl (by decide +kernel) (by rw [hR]; exact ⟨Nat.le_of_ble_eq_true rfl, Nat.le_of_ble_eq_true rfl⟩) [] (by decide) rfl [] rfl rfl rfl rfl (Nat.le_of_ble_eq_true rfl) dX5_see_35 ⟨Nat.zero_le _, Nat.zero_le _⟩ (fun H locs hw => ?_)
  have hw : g_W D A s [(ob, .inr (5, [z0, z1, z2, z3, z4, z5, z6, .ref ga, z8, .int (nI 4), z10])), (ga, .inl (E 5, 6, .inr (.inr (.inr (.inr (fun k => some (gA k))))))), ((gA 4), .inr (3, [q0, q1, q2, q3]))] H locs := hw
  refine W.eq (congrArg (fun z => F0 m 38 ls (.int z :: [])) (show (b2i (outB (nI b8) 0 1) : Int32) = 0 from (congrArg b2i (out_nf (n := b8) (a := 0) (b := 1) (by omega) hb9 (by decide))))) ?_
  refine lv_if_eq (tgt := 44) hx hb dX5_see_38 (by decide) (fun c_38 => ?_) (fun c_38 => absurd c_38 (by decide))
  refine lv_aload_n hx hb dX5_see_44 rfl (lv_at hl 0 rfl) ?_
  refine g_get (TT := TX5) hc hw inX5_see_X5 0 9 1 rfl rfl (by decide) rfl rfl dX5_see_45 ?_
  refine lv_bipush (v := 6) hx hb dX5_see_48 (by decide) ?_
  refine lv_icmp_lt (tgt := 56) hx hb dX5_see_50 (by decide) (fun c_50 => ?_) (fun c_50 => absurd (by decide) c_50)
  refine lv_aload_n hx hb dX5_see_56 rfl (lv_at hl 0 rfl) ?_
  refine g_get (TT := TX5) hc hw inX5_see_X5 0 7 2 rfl rfl (by decide) rfl rfl dX5_see_57 ?_
  refine lv_aload_n hx hb dX5_see_60 rfl (lv_at hl 0 rfl) ?_
  refine g_get (TT := TX5) hc hw inX5_see_X5 0 9 1 rfl rfl (by decide) rfl rfl dX5_see_61 ?_
  refine g_qld hc hw 1 5 4 rfl rfl rfl (by omega) (by decide) (r := .ref (gA 4)) rfl dX5_see_64 ?_
  refine lv_iload_n hx hb dX5_see_65 rfl (lv_at hl 1 rfl) ?_
  refine lv_iload_n hx hb dX5_see_66 rfl (lv_at hl 2 rfl) ?_
  refine lv_iload_n hx hb dX5_see_67 rfl (lv_at hl 3 rfl) ?_
  refine lv_iload hx hb dX5_see_68 (lv_at hl 4 rfl) ?_
  refine g_cVN (As := [.int (nI n), .int (nI w), .int (nI v), .int (nI b8)]) (n := 4) (rest := []) (wc := [((gA 4), .inr (3, [q0, q1, q2, q3]))]) (w1 := [((gA 4), .inr (3, [.int (nI n), .int (nI w), .int (nI v), .int (b2i (decide ((nI b8) = 1)))]))]) (bytes := cX3_fill) (maxL := 5) (ret := none) hc hw hl.1 (m_X3_fill (l := l) (D := D) (E := E) (T := T) (gA 4) q0 q1 q2 q3 n w v (nI b8)) ggX5_see_X3_fill rfl 77 rfl 8 10 11 rfl rfl rfl (by decide +kernel) (by rw [hR]; exact ⟨Nat.le_of_ble_eq_true rfl, Nat.le_of_ble_eq_true rfl⟩) [2] 2 3 rfl rfl (by decide) rfl [(gA 4)] rfl rfl rfl rfl (Nat.le_of_ble_eq_true rfl) dX5_see_70 ⟨Nat.zero_le _, Nat.zero_le _⟩ (fun H locs hw => ?_)
  have hw : g_W D A s [(ob, .inr (5, [z0, z1, z2, z3, z4, z5, z6, .ref ga, z8, .int (nI 4), z10])), (ga, .inl (E 5, 6, .inr (.inr (.inr (.inr (fun k => some (gA k))))))), ((gA 4), .inr (3, [.int (nI n), .int (nI w), .int (nI v), .int (b2i (decide ((nI b8) = 1)))]))] H locs := hw
  refine lv_aload_n hx hb dX5_see_73 rfl (lv_at hl 0 rfl) ?_
  refine lv_dup hx hb dX5_see_74 rfl ?_
  refine g_get (TT := TX5) hc hw inX5_see_X5 0 9 1 rfl rfl (by decide) rfl rfl dX5_see_75 ?_
  refine lv_iconst (v := 1) hx hb dX5_see_78 (by decide) ?_
  refine lv_iadd hx hb dX5_see_79 ?_
  refine W.eq (congrArg (fun z => F0 m 80 ls (.int z :: [.ref ob])) (show ((nI 4) + 1 : Int32) = nI (4 + 1) from rfl)) ?_
  refine g_put (TT := TX5) hc hw inX5_see_X5 tyX5 tyX5_ok nmX5 0 9 1 rfl rfl (by decide) rfl rfl rfl rfl (Nat.le_of_ble_eq_true rfl) dX5_see_80 (fun H locs hw => ?_)
  have hw : g_W D A s [(ob, .inr (5, [z0, z1, z2, z3, z4, z5, z6, .ref ga, z8, .int (nI (4 + 1)), z10])), (ga, .inl (E 5, 6, .inr (.inr (.inr (.inr (fun k => some (gA k))))))), ((gA 4), .inr (3, [.int (nI n), .int (nI w), .int (nI v), .int (b2i (decide ((nI b8) = 1)))]))] H locs := hw
  refine lv_aload_n hx hb dX5_see_83 rfl (lv_at hl 0 rfl) ?_
  refine g_get (TT := TX5) hc hw inX5_see_X5 0 9 1 rfl rfl (by decide) rfl rfl dX5_see_84 ?_
  exact g_iret hQ hc hw hr rfl rfl dX5_see_87

set_option maxRecDepth 100000 in
set_option maxHeartbeats 4000000 in
theorem m_X5_see_ok5 {l : Launch} {D : va_G} {E : Nat → ClassId} {T : Nat → Nat} (ob : Nat) (n : Nat) (w : Nat) (v : Nat) (b8 : Nat) (ga : Nat) (z0 : Value) (z1 : Value) (z2 : Value) (z3 : Value) (z4 : Value) (z5 : Value) (z6 : Value) (z8 : Value) (z10 : Value) (gA : Nat → Nat) (q0 : Value) (q1 : Value) (q2 : Value) (q3 : Value) (hn : n ≤ 9) (hw9 : w ≤ 2) (hv9 : v ≤ grN w) (hg9 : grN w ≤ 99) (hb9 : b8 ≤ 1) : g_M l D E T yX5_see wsX5_see 1 24 [.ref ob, .int (nI n), .int (nI w), .int (nI v), .int (nI b8)] [(ob, .inr (5, [z0, z1, z2, z3, z4, z5, z6, .ref ga, z8, .int (nI 5), z10])), (ga, .inl (E 5, 6, .inr (.inr (.inr (.inr (fun k => some (gA k))))))), ((gA 5), .inr (3, [q0, q1, q2, q3]))] [(ob, .inr (5, [z0, z1, z2, z3, z4, z5, z6, .ref ga, z8, .int (nI (5 + 1)), z10])), (ga, .inl (E 5, 6, .inr (.inr (.inr (.inr (fun k => some (gA k))))))), ((gA 5), .inr (3, [.int (nI n), .int (nI w), .int (nI v), .int (b2i (decide (nI b8 = 1)))]))] (some (.int (nI (5 + 1)))) := by
  refine g_M.of (cc := cX5_see) (nL := 5) (ret := (some .int)) (own := RX5) (lv := [(0, .ref ob), (1, .int (nI n)), (2, .int (nI w)), (3, .int (nI v)), (4, .int (nI b8))]) (by decide) rfl rfl (Nat.le_of_ble_eq_true rfl) rfl ?_
  intro p e R s m args below meth c A Q H locs ls hR hQ hc hr hw hl
  have hx := hc.1
  have hb := hc.2.1
  have hts := hc.2.2.2.1
  have hown := hc.2.2.2.2.1
  refine lv_iload_n hx hb dX5_see_0 rfl (lv_at hl 1 rfl) ?_
  refine lv_iconst (v := 0) hx hb dX5_see_1 (by decide) ?_
  refine lv_bipush (v := 9) hx hb dX5_see_2 (by decide) ?_
  refine g_cS (As := [.int (nI n), .int 0, .int 9]) (n := 3) (rest := []) (wc := []) (w1 := []) (bytes := cX5_outside) (maxL := 3) (ret := (some .boolean)) hc hw hl.1 (m_X5_outside (l := l) (D := D) (E := E) (T := T) (nI n) 0 9) gX5_see_X5_outside rfl (by decide +kernel) (by rw [hR]; exact ⟨Nat.le_of_ble_eq_true rfl, Nat.le_of_ble_eq_true rfl⟩) [] (by decide) rfl [] rfl rfl rfl rfl (Nat.le_of_ble_eq_true rfl) dX5_see_4 ⟨Nat.zero_le _, Nat.zero_le _⟩ (fun H locs hw => ?_)
  have hw : g_W D A s [(ob, .inr (5, [z0, z1, z2, z3, z4, z5, z6, .ref ga, z8, .int (nI 5), z10])), (ga, .inl (E 5, 6, .inr (.inr (.inr (.inr (fun k => some (gA k))))))), ((gA 5), .inr (3, [q0, q1, q2, q3]))] H locs := hw
  refine W.eq (congrArg (fun z => F0 m 7 ls (.int z :: [])) (show (b2i (outB (nI n) 0 9) : Int32) = 0 from (congrArg b2i (out_nf (n := n) (a := 0) (b := 9) (by omega) hn (by decide))))) ?_
  refine lv_if_ne (tgt := 41) hx hb dX5_see_7 (by decide) (fun c_7 => absurd c_7 (by decide)) (fun c_7 => ?_)
  refine lv_iload_n hx hb dX5_see_10 rfl (lv_at hl 2 rfl) ?_
  refine lv_iconst (v := 0) hx hb dX5_see_11 (by decide) ?_
  refine lv_iconst (v := 2) hx hb dX5_see_12 (by decide) ?_
  refine g_cS (As := [.int (nI w), .int 0, .int 2]) (n := 3) (rest := []) (wc := []) (w1 := []) (bytes := cX5_outside) (maxL := 3) (ret := (some .boolean)) hc hw hl.1 (m_X5_outside (l := l) (D := D) (E := E) (T := T) (nI w) 0 2) gX5_see_X5_outside rfl (by decide +kernel) (by rw [hR]; exact ⟨Nat.le_of_ble_eq_true rfl, Nat.le_of_ble_eq_true rfl⟩) [] (by decide) rfl [] rfl rfl rfl rfl (Nat.le_of_ble_eq_true rfl) dX5_see_13 ⟨Nat.zero_le _, Nat.zero_le _⟩ (fun H locs hw => ?_)
  have hw : g_W D A s [(ob, .inr (5, [z0, z1, z2, z3, z4, z5, z6, .ref ga, z8, .int (nI 5), z10])), (ga, .inl (E 5, 6, .inr (.inr (.inr (.inr (fun k => some (gA k))))))), ((gA 5), .inr (3, [q0, q1, q2, q3]))] H locs := hw
  refine W.eq (congrArg (fun z => F0 m 16 ls (.int z :: [])) (show (b2i (outB (nI w) 0 2) : Int32) = 0 from (congrArg b2i (out_nf (n := w) (a := 0) (b := 2) (by omega) hw9 (by decide))))) ?_
  refine lv_if_ne (tgt := 41) hx hb dX5_see_16 (by decide) (fun c_16 => absurd c_16 (by decide)) (fun c_16 => ?_)
  refine lv_iload_n hx hb dX5_see_19 rfl (lv_at hl 3 rfl) ?_
  refine lv_iconst (v := 0) hx hb dX5_see_20 (by decide) ?_
  refine lv_iload_n hx hb dX5_see_21 rfl (lv_at hl 2 rfl) ?_
  refine g_cSN (As := [.int (nI w)]) (n := 1) (rest := [.int 0, .int (nI v)]) (wc := []) (w1 := []) (bytes := cX3_greatest) (maxL := 1) (ret := (some .int)) hc hw hl.1 (m_X3_greatest (l := l) (D := D) (E := E) (T := T) w (by first | assumption | omega | decide)) ggX5_see_X3_greatest rfl 76 rfl 8 7 rfl rfl (by decide +kernel) (by rw [hR]; exact ⟨Nat.le_of_ble_eq_true rfl, Nat.le_of_ble_eq_true rfl⟩) [] (by decide) rfl [] rfl rfl rfl rfl (Nat.le_of_ble_eq_true rfl) dX5_see_22 ⟨Nat.zero_le _, Nat.zero_le _⟩ (fun H locs hw => ?_)
  have hw : g_W D A s [(ob, .inr (5, [z0, z1, z2, z3, z4, z5, z6, .ref ga, z8, .int (nI 5), z10])), (ga, .inl (E 5, 6, .inr (.inr (.inr (.inr (fun k => some (gA k))))))), ((gA 5), .inr (3, [q0, q1, q2, q3]))] H locs := hw
  refine g_cS (As := [.int (nI v), .int 0, .int (nI (grN w))]) (n := 3) (rest := []) (wc := []) (w1 := []) (bytes := cX5_outside) (maxL := 3) (ret := (some .boolean)) hc hw hl.1 (m_X5_outside (l := l) (D := D) (E := E) (T := T) (nI v) 0 (nI (grN w))) gX5_see_X5_outside rfl (by decide +kernel) (by rw [hR]; exact ⟨Nat.le_of_ble_eq_true rfl, Nat.le_of_ble_eq_true rfl⟩) [] (by decide) rfl [] rfl rfl rfl rfl (Nat.le_of_ble_eq_true rfl) dX5_see_25 ⟨Nat.zero_le _, Nat.zero_le _⟩ (fun H locs hw => ?_)
  have hw : g_W D A s [(ob, .inr (5, [z0, z1, z2, z3, z4, z5, z6, .ref ga, z8, .int (nI 5), z10])), (ga, .inl (E 5, 6, .inr (.inr (.inr (.inr (fun k => some (gA k))))))), ((gA 5), .inr (3, [q0, q1, q2, q3]))] H locs := hw
  refine W.eq (congrArg (fun z => F0 m 28 ls (.int z :: [])) (show (b2i (outB (nI v) 0 (nI (grN w))) : Int32) = 0 from (congrArg b2i (out_nf (n := v) (a := 0) (b := grN w) (by omega) hv9 (by omega))))) ?_
  refine lv_if_ne (tgt := 41) hx hb dX5_see_28 (by decide) (fun c_28 => absurd c_28 (by decide)) (fun c_28 => ?_)
  refine lv_iload hx hb dX5_see_31 (lv_at hl 4 rfl) ?_
  refine lv_iconst (v := 0) hx hb dX5_see_33 (by decide) ?_
  refine lv_iconst (v := 1) hx hb dX5_see_34 (by decide) ?_
  refine g_cS (As := [.int (nI b8), .int 0, .int 1]) (n := 3) (rest := []) (wc := []) (w1 := []) (bytes := cX5_outside) (maxL := 3) (ret := (some .boolean)) hc hw hl.1 (m_X5_outside (l := l) (D := D) (E := E) (T := T) (nI b8) 0 1) gX5_see_X5_outside rfl (by decide +kernel) (by rw [hR]; exact ⟨Nat.le_of_ble_eq_true rfl, Nat.le_of_ble_eq_true rfl⟩) [] (by decide) rfl [] rfl rfl rfl rfl (Nat.le_of_ble_eq_true rfl) dX5_see_35 ⟨Nat.zero_le _, Nat.zero_le _⟩ (fun H locs hw => ?_)
  have hw : g_W D A s [(ob, .inr (5, [z0, z1, z2, z3, z4, z5, z6, .ref ga, z8, .int (nI 5), z10])), (ga, .inl (E 5, 6, .inr (.inr (.inr (.inr (fun k => some (gA k))))))), ((gA 5), .inr (3, [q0, q1, q2, q3]))] H locs := hw
  refine W.eq (congrArg (fun z => F0 m 38 ls (.int z :: [])) (show (b2i (outB (nI b8) 0 1) : Int32) = 0 from (congrArg b2i (out_nf (n := b8) (a := 0) (b := 1) (by omega) hb9 (by decide))))) ?_
  refine lv_if_eq (tgt := 44) hx hb dX5_see_38 (by decide) (fun c_38 => ?_) (fun c_38 => absurd c_38 (by decide))
  refine lv_aload_n hx hb dX5_see_44 rfl (lv_at hl 0 rfl) ?_
  refine g_get (TT := TX5) hc hw inX5_see_X5 0 9 1 rfl rfl (by decide) rfl rfl dX5_see_45 ?_
  refine lv_bipush (v := 6) hx hb dX5_see_48 (by decide) ?_
  refine lv_icmp_lt (tgt := 56) hx hb dX5_see_50 (by decide) (fun c_50 => ?_) (fun c_50 => absurd (by decide) c_50)
  refine lv_aload_n hx hb dX5_see_56 rfl (lv_at hl 0 rfl) ?_
  refine g_get (TT := TX5) hc hw inX5_see_X5 0 7 2 rfl rfl (by decide) rfl rfl dX5_see_57 ?_
  refine lv_aload_n hx hb dX5_see_60 rfl (lv_at hl 0 rfl) ?_
  refine g_get (TT := TX5) hc hw inX5_see_X5 0 9 1 rfl rfl (by decide) rfl rfl dX5_see_61 ?_
  refine g_qld hc hw 1 5 5 rfl rfl rfl (by omega) (by decide) (r := .ref (gA 5)) rfl dX5_see_64 ?_
  refine lv_iload_n hx hb dX5_see_65 rfl (lv_at hl 1 rfl) ?_
  refine lv_iload_n hx hb dX5_see_66 rfl (lv_at hl 2 rfl) ?_
  refine lv_iload_n hx hb dX5_see_67 rfl (lv_at hl 3 rfl) ?_
  refine lv_iload hx hb dX5_see_68 (lv_at hl 4 rfl) ?_
  refine g_cVN (As := [.int (nI n), .int (nI w), .int (nI v), .int (nI b8)]) (n := 4) (rest := []) (wc := [((gA 5), .inr (3, [q0, q1, q2, q3]))]) (w1 := [((gA 5), .inr (3, [.int (nI n), .int (nI w), .int (nI v), .int (b2i (decide ((nI b8) = 1)))]))]) (bytes := cX3_fill) (maxL := 5) (ret := none) hc hw hl.1 (m_X3_fill (l := l) (D := D) (E := E) (T := T) (gA 5) q0 q1 q2 q3 n w v (nI b8)) ggX5_see_X3_fill rfl 77 rfl 8 10 11 rfl rfl rfl (by decide +kernel) (by rw [hR]; exact ⟨Nat.le_of_ble_eq_true rfl, Nat.le_of_ble_eq_true rfl⟩) [2] 2 3 rfl rfl (by decide) rfl [(gA 5)] rfl rfl rfl rfl (Nat.le_of_ble_eq_true rfl) dX5_see_70 ⟨Nat.zero_le _, Nat.zero_le _⟩ (fun H locs hw => ?_)
  have hw : g_W D A s [(ob, .inr (5, [z0, z1, z2, z3, z4, z5, z6, .ref ga, z8, .int (nI 5), z10])), (ga, .inl (E 5, 6, .inr (.inr (.inr (.inr (fun k => some (gA k))))))), ((gA 5), .inr (3, [.int (nI n), .int (nI w), .int (nI v), .int (b2i (decide ((nI b8) = 1)))]))] H locs := hw
  refine lv_aload_n hx hb dX5_see_73 rfl (lv_at hl 0 rfl) ?_
  refine lv_dup hx hb dX5_see_74 rfl ?_
  refine g_get (TT := TX5) hc hw inX5_see_X5 0 9 1 rfl rfl (by decide) rfl rfl dX5_see_75 ?_
  refine lv_iconst (v := 1) hx hb dX5_see_78 (by decide) ?_
  refine lv_iadd hx hb dX5_see_79 ?_
  refine W.eq (congrArg (fun z => F0 m 80 ls (.int z :: [.ref ob])) (show ((nI 5) + 1 : Int32) = nI (5 + 1) from rfl)) ?_
  refine g_put (TT := TX5) hc hw inX5_see_X5 tyX5 tyX5_ok nmX5 0 9 1 rfl rfl (by decide) rfl rfl rfl rfl (Nat.le_of_ble_eq_true rfl) dX5_see_80 (fun H locs hw => ?_)
  have hw : g_W D A s [(ob, .inr (5, [z0, z1, z2, z3, z4, z5, z6, .ref ga, z8, .int (nI (5 + 1)), z10])), (ga, .inl (E 5, 6, .inr (.inr (.inr (.inr (fun k => some (gA k))))))), ((gA 5), .inr (3, [.int (nI n), .int (nI w), .int (nI v), .int (b2i (decide ((nI b8) = 1)))]))] H locs := hw
  refine lv_aload_n hx hb dX5_see_83 rfl (lv_at hl 0 rfl) ?_
  refine g_get (TT := TX5) hc hw inX5_see_X5 0 9 1 rfl rfl (by decide) rfl rfl dX5_see_84 ?_
  exact g_iret hQ hc hw hr rfl rfl dX5_see_87
end P19g
