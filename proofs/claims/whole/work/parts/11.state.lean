section P11
theorem dX4_spinIfCrippled_0 : decode cX4_spinIfCrippled 0 = .ok (.aload_n 0, 1) := by decide +kernel
theorem dX4_spinIfCrippled_1 : decode cX4_spinIfCrippled 1 = .ok (.invokevirtual 66, 3) := by decide +kernel
theorem dX4_spinIfCrippled_4 : decode cX4_spinIfCrippled 4 = .ok (.iconst 1, 1) := by decide +kernel
theorem dX4_spinIfCrippled_5 : decode cX4_spinIfCrippled 5 = .ok (.if_icmp .le 8, 3) := by decide +kernel
theorem dX4_spinIfCrippled_8 : decode cX4_spinIfCrippled 8 = .ok (.aload_n 0, 1) := by decide +kernel
theorem dX4_spinIfCrippled_9 : decode cX4_spinIfCrippled 9 = .ok (.iconst 1, 1) := by decide +kernel
theorem dX4_spinIfCrippled_10 : decode cX4_spinIfCrippled 10 = .ok (.putfield 35, 3) := by decide +kernel
theorem dX4_spinIfCrippled_13 : decode cX4_spinIfCrippled 13 = .ok (.return_, 1) := by decide +kernel
set_option maxRecDepth 20000 in
theorem ggX4_spinIfCrippled_X4_deadCount : GoodIn wsX4_spinIfCrippled wsX4_deadCount := goodIn_r _ [6, 7, 8, 9, 10, 11, 12, 13, 14, 15, 16, 17, 18, 19, 20, 21, 22, 23, 24, 25] rfl (by decide +kernel)
set_option maxRecDepth 20000 in
theorem gX4_spinIfCrippled_X4_deadCount : GoodIn wsX4_spinIfCrippled (wsV RX4 66 RX4 yX4_deadCount wsX4_deadCount) := goodIn_app (goodIn_of _ (by decide +kernel)) ggX4_spinIfCrippled_X4_deadCount
theorem inX4_spinIfCrippled_X4 : ∀ w ∈ u_ws RX4 TX4 11, w ∈ wsX4_spinIfCrippled := fun w h => List.mem_cons_of_mem _ (List.mem_append_right _ h)
set_option maxRecDepth 100000 in
set_option maxHeartbeats 4000000 in
theorem m_X4_spinIfCrippled {l : Launch} {D : va_G} {E : Nat → ClassId} {T : Nat → Nat} (h : Nat) (v0 : Value) (v1 : Value) (v2 : Value) (v5 : Value) (v6 : Value) (v7 : Value) (v8 : Value) (v9 : Value) (v10 : Value) (d : Nat) (mo : Int32) (hd : d < 16) : g_M l D E T yX4_spinIfCrippled wsX4_spinIfCrippled 2 40 [.ref h] [(h, .inr (4, [v0, v1, v2, .int (nI d), .int mo, v5, v6, v7, v8, v9, v10]))] [(h, .inr (4, [v0, v1, v2, .int (nI d), .int (spM d mo), v5, v6, v7, v8, v9, v10]))] none := by
  refine g_M.of (cc := cX4_spinIfCrippled) (nL := 1) (ret := none) (own := RX4) (lv := [(0, .ref h)]) (by decide) rfl rfl (Nat.le_of_ble_eq_true rfl) rfl ?_
  intro p e R s m args below meth c A Q H locs ls hR hQ hc hr hw hl
  have hx := hc.1
  have hb := hc.2.1
  have hts := hc.2.2.2.1
  have hown := hc.2.2.2.2.1
  refine lv_aload_n hx hb dX4_spinIfCrippled_0 rfl (lv_at hl 0 rfl) ?_
  refine g_cV (As := []) (n := 0) (rest := []) (wc := [(h, .inr (4, [v0, v1, v2, .int (nI d), .int mo, v5, v6, v7, v8, v9, v10]))]) (w1 := [(h, .inr (4, [v0, v1, v2, .int (nI d), .int mo, v5, v6, v7, v8, v9, v10]))]) (bytes := cX4_deadCount) (maxL := 1) (ret := (some .int)) hc hw hl.1 (m_X4_deadCount (l := l) (D := D) (E := E) (T := T) h v0 v1 v2 (.int mo) v5 v6 v7 v8 v9 v10 d (by first | assumption | omega | decide)) gX4_spinIfCrippled_X4_deadCount rfl (by decide +kernel) (by rw [hR]; exact ⟨Nat.le_of_ble_eq_true rfl, Nat.le_of_ble_eq_true rfl⟩) [0] 0 4 rfl rfl (by decide) rfl [h] rfl rfl rfl rfl (Nat.le_of_ble_eq_true rfl) dX4_spinIfCrippled_1 ⟨Nat.zero_le _, Nat.zero_le _⟩ (fun H locs hw => ?_)
  have hw : g_W D A s [(h, .inr (4, [v0, v1, v2, .int (nI d), .int mo, v5, v6, v7, v8, v9, v10]))] H locs := hw
  refine lv_iconst (v := 1) hx hb dX4_spinIfCrippled_4 (by decide) ?_
  refine lv_icmp_le (tgt := 13) hx hb dX4_spinIfCrippled_5 (by decide) (fun c_5 => ?_) (fun c_5 => ?_)
  · skip
    exact g_vret hQ hc hw hr rfl (by rw [show spM d mo = mo from if_neg (g_le1 (pcn_lt d hd) c_5)]) dX4_spinIfCrippled_13
  · skip
    refine lv_aload_n hx hb dX4_spinIfCrippled_8 rfl (lv_at hl 0 rfl) ?_
    refine lv_iconst (v := 1) hx hb dX4_spinIfCrippled_9 (by decide) ?_
    refine g_put (TT := TX4) hc hw inX4_spinIfCrippled_X4 tyX4 tyX4_ok nmX4 0 4 1 rfl rfl (by decide) rfl rfl rfl rfl (Nat.le_of_ble_eq_true rfl) dX4_spinIfCrippled_10 (fun H locs hw => ?_)
    have hw : g_W D A s [(h, .inr (4, [v0, v1, v2, .int (nI d), .int 1, v5, v6, v7, v8, v9, v10]))] H locs := hw
    exact g_vret hQ hc hw hr rfl (by rw [show spM d mo = 1 from if_pos (g_gt1 (pcn_lt d hd) c_5)]) dX4_spinIfCrippled_13

theorem dX4_strike_0 : decode cX4_strike 0 = .ok (.aload_n 0, 1) := by decide +kernel
theorem dX4_strike_1 : decode cX4_strike 1 = .ok (.dup, 1) := by decide +kernel
theorem dX4_strike_2 : decode cX4_strike 2 = .ok (.getfield 31, 3) := by decide +kernel
theorem dX4_strike_5 : decode cX4_strike 5 = .ok (.iconst 1, 1) := by decide +kernel
theorem dX4_strike_6 : decode cX4_strike 6 = .ok (.iload_n 1, 1) := by decide +kernel
theorem dX4_strike_7 : decode cX4_strike 7 = .ok (.ishl, 1) := by decide +kernel
theorem dX4_strike_8 : decode cX4_strike 8 = .ok (.ior, 1) := by decide +kernel
theorem dX4_strike_9 : decode cX4_strike 9 = .ok (.putfield 31, 3) := by decide +kernel
theorem dX4_strike_12 : decode cX4_strike 12 = .ok (.aload_n 0, 1) := by decide +kernel
theorem dX4_strike_13 : decode cX4_strike 13 = .ok (.invokevirtual 63, 3) := by decide +kernel
theorem dX4_strike_16 : decode cX4_strike 16 = .ok (.return_, 1) := by decide +kernel
set_option maxRecDepth 20000 in
theorem ggX4_strike_X4_spinIfCrippled : GoodIn wsX4_strike wsX4_spinIfCrippled := goodIn_r _ [6, 7, 8, 9, 10, 5, 11, 1, 12, 13, 14, 15, 16, 17, 18, 19, 20, 21, 22, 23, 24, 25, 26, 27, 28, 29] rfl (by decide +kernel)
set_option maxRecDepth 20000 in
theorem gX4_strike_X4_spinIfCrippled : GoodIn wsX4_strike (wsV RX4 63 RX4 yX4_spinIfCrippled wsX4_spinIfCrippled) := goodIn_app (goodIn_of _ (by decide +kernel)) ggX4_strike_X4_spinIfCrippled
theorem inX4_strike_X4 : ∀ w ∈ u_ws RX4 TX4 11, w ∈ wsX4_strike := fun w h => List.mem_cons_of_mem _ (List.mem_append_right _ h)
set_option maxRecDepth 100000 in
set_option maxHeartbeats 4000000 in
theorem m_X4_strike {l : Launch} {D : va_G} {E : Nat → ClassId} {T : Nat → Nat} (h : Nat) (v0 : Value) (v1 : Value) (v2 : Value) (v5 : Value) (v6 : Value) (v7 : Value) (v8 : Value) (v9 : Value) (v10 : Value) (d : Nat) (mo : Int32) (i : Nat) (hd : d < 16) (hi : i < 4) : g_M l D E T yX4_strike wsX4_strike 3 60 [.ref h, .int (nI i)] [(h, .inr (4, [v0, v1, v2, .int (nI d), .int mo, v5, v6, v7, v8, v9, v10]))] [(h, .inr (4, [v0, v1, v2, .int (nI (dIn d i)), .int (spM (dIn d i) mo), v5, v6, v7, v8, v9, v10]))] none := by
  refine g_M.of (cc := cX4_strike) (nL := 2) (ret := none) (own := RX4) (lv := [(0, .ref h), (1, .int (nI i))]) (by decide) rfl rfl (Nat.le_of_ble_eq_true rfl) rfl ?_
  intro p e R s m args below meth c A Q H locs ls hR hQ hc hr hw hl
  have hx := hc.1
  have hb := hc.2.1
  have hts := hc.2.2.2.1
  have hown := hc.2.2.2.2.1
  refine lv_aload_n hx hb dX4_strike_0 rfl (lv_at hl 0 rfl) ?_
  refine lv_dup hx hb dX4_strike_1 rfl ?_
  refine g_get (TT := TX4) hc hw inX4_strike_X4 0 3 1 rfl rfl (by decide) rfl rfl dX4_strike_2 ?_
  refine lv_iconst (v := 1) hx hb dX4_strike_5 (by decide) ?_
  refine lv_iload_n hx hb dX4_strike_6 rfl (lv_at hl 1 rfl) ?_
  refine lv_ishl hx hb dX4_strike_7 ?_
  refine lv_ior hx hb dX4_strike_8 ?_
  refine W.eq (congrArg (fun z => F0 m 9 ls (.int z :: [.ref h])) (g_in16 d hd i hi)) ?_
  refine g_put (TT := TX4) hc hw inX4_strike_X4 tyX4 tyX4_ok nmX4 0 3 1 rfl rfl (by decide) rfl rfl rfl rfl (Nat.le_of_ble_eq_true rfl) dX4_strike_9 (fun H locs hw => ?_)
  have hw : g_W D A s [(h, .inr (4, [v0, v1, v2, .int (nI (dIn d i)), .int mo, v5, v6, v7, v8, v9, v10]))] H locs := hw
  refine lv_aload_n hx hb dX4_strike_12 rfl (lv_at hl 0 rfl) ?_
  refine g_cV (As := []) (n := 0) (rest := []) (wc := [(h, .inr (4, [v0, v1, v2, .int (nI (dIn d i)), .int mo, v5, v6, v7, v8, v9, v10]))]) (w1 := [(h, .inr (4, [v0, v1, v2, .int (nI (dIn d i)), .int (spM (dIn d i) mo), v5, v6, v7, v8, v9, v10]))]) (bytes := cX4_spinIfCrippled) (maxL := 1) (ret := none) hc hw hl.1 (m_X4_spinIfCrippled (l := l) (D := D) (E := E) (T := T) h v0 v1 v2 v5 v6 v7 v8 v9 v10 (dIn d i) mo (dIn_lt d hd i hi)) gX4_strike_X4_spinIfCrippled rfl (by decide +kernel) (by rw [hR]; exact ⟨Nat.le_of_ble_eq_true rfl, Nat.le_of_ble_eq_true rfl⟩) [0] 0 4 rfl rfl (by decide) rfl [h] rfl rfl rfl rfl (Nat.le_of_ble_eq_true rfl) dX4_strike_13 ⟨Nat.zero_le _, Nat.zero_le _⟩ (fun H locs hw => ?_)
  have hw : g_W D A s [(h, .inr (4, [v0, v1, v2, .int (nI (dIn d i)), .int (spM (dIn d i) mo), v5, v6, v7, v8, v9, v10]))] H locs := hw
  exact g_vret hQ hc hw hr rfl rfl dX4_strike_16

theorem dX4_revive_0 : decode cX4_revive 0 = .ok (.aload_n 0, 1) := by decide +kernel
theorem dX4_revive_1 : decode cX4_revive 1 = .ok (.dup, 1) := by decide +kernel
theorem dX4_revive_2 : decode cX4_revive 2 = .ok (.getfield 31, 3) := by decide +kernel
theorem dX4_revive_5 : decode cX4_revive 5 = .ok (.iconst 1, 1) := by decide +kernel
theorem dX4_revive_6 : decode cX4_revive 6 = .ok (.iload_n 1, 1) := by decide +kernel
theorem dX4_revive_7 : decode cX4_revive 7 = .ok (.ishl, 1) := by decide +kernel
theorem dX4_revive_8 : decode cX4_revive 8 = .ok (.iconst (-1), 1) := by decide +kernel
theorem dX4_revive_9 : decode cX4_revive 9 = .ok (.ixor, 1) := by decide +kernel
theorem dX4_revive_10 : decode cX4_revive 10 = .ok (.iand, 1) := by decide +kernel
theorem dX4_revive_11 : decode cX4_revive 11 = .ok (.putfield 31, 3) := by decide +kernel
theorem dX4_revive_14 : decode cX4_revive 14 = .ok (.return_, 1) := by decide +kernel
theorem inX4_revive_X4 : ∀ w ∈ u_ws RX4 TX4 11, w ∈ wsX4_revive := fun w h => List.mem_cons_of_mem _ (List.mem_append_right _ h)
set_option maxRecDepth 100000 in
set_option maxHeartbeats 4000000 in
theorem m_X4_revive {l : Launch} {D : va_G} {E : Nat → ClassId} {T : Nat → Nat} (h : Nat) (v0 : Value) (v1 : Value) (v2 : Value) (v4 : Value) (v5 : Value) (v6 : Value) (v7 : Value) (v8 : Value) (v9 : Value) (v10 : Value) (d : Nat) (i : Nat) (hd : d < 16) (hi : i < 4) : g_M l D E T yX4_revive wsX4_revive 0 0 [.ref h, .int (nI i)] [(h, .inr (4, [v0, v1, v2, .int (nI d), v4, v5, v6, v7, v8, v9, v10]))] [(h, .inr (4, [v0, v1, v2, .int (nI (dOut d i)), v4, v5, v6, v7, v8, v9, v10]))] none := by
  refine g_M.of (cc := cX4_revive) (nL := 2) (ret := none) (own := RX4) (lv := [(0, .ref h), (1, .int (nI i))]) (by decide) rfl rfl (Nat.le_of_ble_eq_true rfl) rfl ?_
  intro p e R s m args below meth c A Q H locs ls hR hQ hc hr hw hl
  have hx := hc.1
  have hb := hc.2.1
  have hts := hc.2.2.2.1
  have hown := hc.2.2.2.2.1
  refine lv_aload_n hx hb dX4_revive_0 rfl (lv_at hl 0 rfl) ?_
  refine lv_dup hx hb dX4_revive_1 rfl ?_
  refine g_get (TT := TX4) hc hw inX4_revive_X4 0 3 1 rfl rfl (by decide) rfl rfl dX4_revive_2 ?_
  refine lv_iconst (v := 1) hx hb dX4_revive_5 (by decide) ?_
  refine lv_iload_n hx hb dX4_revive_6 rfl (lv_at hl 1 rfl) ?_
  refine lv_ishl hx hb dX4_revive_7 ?_
  refine lv_iconst (v := (-1)) hx hb dX4_revive_8 (by decide) ?_
  refine lv_ixor hx hb dX4_revive_9 ?_
  refine lv_iand hx hb dX4_revive_10 ?_
  refine W.eq (congrArg (fun z => F0 m 11 ls (.int z :: [.ref h])) (g_out16 d hd i hi)) ?_
  refine g_put (TT := TX4) hc hw inX4_revive_X4 tyX4 tyX4_ok nmX4 0 3 1 rfl rfl (by decide) rfl rfl rfl rfl (Nat.le_of_ble_eq_true rfl) dX4_revive_11 (fun H locs hw => ?_)
  have hw : g_W D A s [(h, .inr (4, [v0, v1, v2, .int (nI (dOut d i)), v4, v5, v6, v7, v8, v9, v10]))] H locs := hw
  exact g_vret hQ hc hw hr rfl rfl dX4_revive_14

theorem dX4_leaveAlive_0 : decode cX4_leaveAlive 0 = .ok (.aload_n 0, 1) := by decide +kernel
theorem dX4_leaveAlive_1 : decode cX4_leaveAlive 1 = .ok (.bipush 15, 2) := by decide +kernel
theorem dX4_leaveAlive_3 : decode cX4_leaveAlive 3 = .ok (.iload_n 1, 1) := by decide +kernel
theorem dX4_leaveAlive_4 : decode cX4_leaveAlive 4 = .ok (.iconst (-1), 1) := by decide +kernel
theorem dX4_leaveAlive_5 : decode cX4_leaveAlive 5 = .ok (.ixor, 1) := by decide +kernel
theorem dX4_leaveAlive_6 : decode cX4_leaveAlive 6 = .ok (.iand, 1) := by decide +kernel
theorem dX4_leaveAlive_7 : decode cX4_leaveAlive 7 = .ok (.putfield 31, 3) := by decide +kernel
theorem dX4_leaveAlive_10 : decode cX4_leaveAlive 10 = .ok (.aload_n 0, 1) := by decide +kernel
theorem dX4_leaveAlive_11 : decode cX4_leaveAlive 11 = .ok (.invokevirtual 63, 3) := by decide +kernel
theorem dX4_leaveAlive_14 : decode cX4_leaveAlive 14 = .ok (.return_, 1) := by decide +kernel
set_option maxRecDepth 20000 in
theorem ggX4_leaveAlive_X4_spinIfCrippled : GoodIn wsX4_leaveAlive wsX4_spinIfCrippled := goodIn_r _ [6, 7, 8, 9, 10, 5, 11, 1, 12, 13, 14, 15, 16, 17, 18, 19, 20, 21, 22, 23, 24, 25, 26, 27, 28, 29] rfl (by decide +kernel)
set_option maxRecDepth 20000 in
theorem gX4_leaveAlive_X4_spinIfCrippled : GoodIn wsX4_leaveAlive (wsV RX4 63 RX4 yX4_spinIfCrippled wsX4_spinIfCrippled) := goodIn_app (goodIn_of _ (by decide +kernel)) ggX4_leaveAlive_X4_spinIfCrippled
theorem inX4_leaveAlive_X4 : ∀ w ∈ u_ws RX4 TX4 11, w ∈ wsX4_leaveAlive := fun w h => List.mem_cons_of_mem _ (List.mem_append_right _ h)
set_option maxRecDepth 100000 in
set_option maxHeartbeats 4000000 in
theorem m_X4_leaveAlive {l : Launch} {D : va_G} {E : Nat → ClassId} {T : Nat → Nat} (h : Nat) (v0 : Value) (v1 : Value) (v2 : Value) (v5 : Value) (v6 : Value) (v7 : Value) (v8 : Value) (v9 : Value) (v10 : Value) (v3 : Value) (mo : Int32) (sset : Nat) (hs : sset < 16) : g_M l D E T yX4_leaveAlive wsX4_leaveAlive 3 60 [.ref h, .int (nI sset)] [(h, .inr (4, [v0, v1, v2, v3, .int mo, v5, v6, v7, v8, v9, v10]))] [(h, .inr (4, [v0, v1, v2, .int (nI (15 - sset)), .int (spM (15 - sset) mo), v5, v6, v7, v8, v9, v10]))] none := by
  refine g_M.of (cc := cX4_leaveAlive) (nL := 2) (ret := none) (own := RX4) (lv := [(0, .ref h), (1, .int (nI sset))]) (by decide) rfl rfl (Nat.le_of_ble_eq_true rfl) rfl ?_
  intro p e R s m args below meth c A Q H locs ls hR hQ hc hr hw hl
  have hx := hc.1
  have hb := hc.2.1
  have hts := hc.2.2.2.1
  have hown := hc.2.2.2.2.1
  refine lv_aload_n hx hb dX4_leaveAlive_0 rfl (lv_at hl 0 rfl) ?_
  refine lv_bipush (v := 15) hx hb dX4_leaveAlive_1 (by decide) ?_
  refine lv_iload_n hx hb dX4_leaveAlive_3 rfl (lv_at hl 1 rfl) ?_
  refine lv_iconst (v := (-1)) hx hb dX4_leaveAlive_4 (by decide) ?_
  refine lv_ixor hx hb dX4_leaveAlive_5 ?_
  refine lv_iand hx hb dX4_leaveAlive_6 ?_
  refine W.eq (congrArg (fun z => F0 m 7 ls (.int z :: [.ref h])) (g_not16 sset hs)) ?_
  refine g_put (TT := TX4) hc hw inX4_leaveAlive_X4 tyX4 tyX4_ok nmX4 0 3 1 rfl rfl (by decide) rfl rfl rfl rfl (Nat.le_of_ble_eq_true rfl) dX4_leaveAlive_7 (fun H locs hw => ?_)
  have hw : g_W D A s [(h, .inr (4, [v0, v1, v2, .int (nI (15 - sset)), .int mo, v5, v6, v7, v8, v9, v10]))] H locs := hw
  refine lv_aload_n hx hb dX4_leaveAlive_10 rfl (lv_at hl 0 rfl) ?_
  refine g_cV (As := []) (n := 0) (rest := []) (wc := [(h, .inr (4, [v0, v1, v2, .int (nI (15 - sset)), .int mo, v5, v6, v7, v8, v9, v10]))]) (w1 := [(h, .inr (4, [v0, v1, v2, .int (nI (15 - sset)), .int (spM (15 - sset) mo), v5, v6, v7, v8, v9, v10]))]) (bytes := cX4_spinIfCrippled) (maxL := 1) (ret := none) hc hw hl.1 (m_X4_spinIfCrippled (l := l) (D := D) (E := E) (T := T) h v0 v1 v2 v5 v6 v7 v8 v9 v10 (15 - sset) mo (by omega)) gX4_leaveAlive_X4_spinIfCrippled rfl (by decide +kernel) (by rw [hR]; exact ⟨Nat.le_of_ble_eq_true rfl, Nat.le_of_ble_eq_true rfl⟩) [0] 0 4 rfl rfl (by decide) rfl [h] rfl rfl rfl rfl (Nat.le_of_ble_eq_true rfl) dX4_leaveAlive_11 ⟨Nat.zero_le _, Nat.zero_le _⟩ (fun H locs hw => ?_)
  have hw : g_W D A s [(h, .inr (4, [v0, v1, v2, .int (nI (15 - sset)), .int (spM (15 - sset) mo), v5, v6, v7, v8, v9, v10]))] H locs := hw
  exact g_vret hQ hc hw hr rfl rfl dX4_leaveAlive_14

theorem dX4_lostTicks_0 : decode cX4_lostTicks 0 = .ok (.aload_n 0, 1) := by decide +kernel
theorem dX4_lostTicks_1 : decode cX4_lostTicks 1 = .ok (.getfield 42, 3) := by decide +kernel
theorem dX4_lostTicks_4 : decode cX4_lostTicks 4 = .ok (.aload_n 0, 1) := by decide +kernel
theorem dX4_lostTicks_5 : decode cX4_lostTicks 5 = .ok (.getfield 48, 3) := by decide +kernel
theorem dX4_lostTicks_8 : decode cX4_lostTicks 8 = .ok (.iadd, 1) := by decide +kernel
theorem dX4_lostTicks_9 : decode cX4_lostTicks 9 = .ok (.ireturn, 1) := by decide +kernel
theorem inX4_lostTicks_X4 : ∀ w ∈ u_ws RX4 TX4 11, w ∈ wsX4_lostTicks := fun w h => List.mem_cons_of_mem _ (List.mem_append_right _ h)
set_option maxRecDepth 100000 in
set_option maxHeartbeats 4000000 in
theorem m_X4_lostTicks {l : Launch} {D : va_G} {E : Nat → ClassId} {T : Nat → Nat} (h : Nat) (v0 : Value) (v1 : Value) (v2 : Value) (v3 : Value) (v4 : Value) (v5 : Value) (v7 : Value) (v9 : Value) (v10 : Value) (mi : Int32) (sa : Int32)  : g_M l D E T yX4_lostTicks wsX4_lostTicks 0 0 [.ref h] [(h, .inr (4, [v0, v1, v2, v3, v4, v5, .int mi, v7, .int sa, v9, v10]))] [(h, .inr (4, [v0, v1, v2, v3, v4, v5, .int mi, v7, .int sa, v9, v10]))] (some (.int (mi + sa))) := by
  refine g_M.of (cc := cX4_lostTicks) (nL := 1) (ret := (some .int)) (own := RX4) (lv := [(0, .ref h)]) (by decide) rfl rfl (Nat.le_of_ble_eq_true rfl) rfl ?_
  intro p e R s m args below meth c A Q H locs ls hR hQ hc hr hw hl
  have hx := hc.1
  have hb := hc.2.1
  have hts := hc.2.2.2.1
  have hown := hc.2.2.2.2.1
  refine lv_aload_n hx hb dX4_lostTicks_0 rfl (lv_at hl 0 rfl) ?_
  refine g_get (TT := TX4) hc hw inX4_lostTicks_X4 0 6 1 rfl rfl (by decide) rfl rfl dX4_lostTicks_1 ?_
  refine lv_aload_n hx hb dX4_lostTicks_4 rfl (lv_at hl 0 rfl) ?_
  refine g_get (TT := TX4) hc hw inX4_lostTicks_X4 0 8 2 rfl rfl (by decide) rfl rfl dX4_lostTicks_5 ?_
  refine lv_iadd hx hb dX4_lostTicks_8 ?_
  exact g_iret hQ hc hw hr rfl rfl dX4_lostTicks_9

theorem dX4_momentumAlong_0 : decode cX4_momentumAlong 0 = .ok (.getstatic 70, 3) := by decide +kernel
theorem dX4_momentumAlong_3 : decode cX4_momentumAlong 3 = .ok (.iload_n 1, 1) := by decide +kernel
theorem dX4_momentumAlong_4 : decode cX4_momentumAlong 4 = .ok (.iaload, 1) := by decide +kernel
theorem dX4_momentumAlong_5 : decode cX4_momentumAlong 5 = .ok (.i2f, 1) := by decide +kernel
theorem dX4_momentumAlong_6 : decode cX4_momentumAlong 6 = .ok (.aload_n 0, 1) := by decide +kernel
theorem dX4_momentumAlong_7 : decode cX4_momentumAlong 7 = .ok (.getfield 9, 3) := by decide +kernel
theorem dX4_momentumAlong_10 : decode cX4_momentumAlong 10 = .ok (.iconst 0, 1) := by decide +kernel
theorem dX4_momentumAlong_11 : decode cX4_momentumAlong 11 = .ok (.faload, 1) := by decide +kernel
theorem dX4_momentumAlong_12 : decode cX4_momentumAlong 12 = .ok (.fmul, 1) := by decide +kernel
theorem dX4_momentumAlong_13 : decode cX4_momentumAlong 13 = .ok (.getstatic 70, 3) := by decide +kernel
theorem dX4_momentumAlong_16 : decode cX4_momentumAlong 16 = .ok (.iconst 3, 1) := by decide +kernel
theorem dX4_momentumAlong_17 : decode cX4_momentumAlong 17 = .ok (.iload_n 1, 1) := by decide +kernel
theorem dX4_momentumAlong_18 : decode cX4_momentumAlong 18 = .ok (.iadd, 1) := by decide +kernel
theorem dX4_momentumAlong_19 : decode cX4_momentumAlong 19 = .ok (.iaload, 1) := by decide +kernel
theorem dX4_momentumAlong_20 : decode cX4_momentumAlong 20 = .ok (.i2f, 1) := by decide +kernel
theorem dX4_momentumAlong_21 : decode cX4_momentumAlong 21 = .ok (.aload_n 0, 1) := by decide +kernel
theorem dX4_momentumAlong_22 : decode cX4_momentumAlong 22 = .ok (.getfield 9, 3) := by decide +kernel
theorem dX4_momentumAlong_25 : decode cX4_momentumAlong 25 = .ok (.iconst 1, 1) := by decide +kernel
theorem dX4_momentumAlong_26 : decode cX4_momentumAlong 26 = .ok (.faload, 1) := by decide +kernel
theorem dX4_momentumAlong_27 : decode cX4_momentumAlong 27 = .ok (.fmul, 1) := by decide +kernel
theorem dX4_momentumAlong_28 : decode cX4_momentumAlong 28 = .ok (.fadd, 1) := by decide +kernel
theorem dX4_momentumAlong_29 : decode cX4_momentumAlong 29 = .ok (.getstatic 70, 3) := by decide +kernel
theorem dX4_momentumAlong_32 : decode cX4_momentumAlong 32 = .ok (.bipush 6, 2) := by decide +kernel
theorem dX4_momentumAlong_34 : decode cX4_momentumAlong 34 = .ok (.iload_n 1, 1) := by decide +kernel
theorem dX4_momentumAlong_35 : decode cX4_momentumAlong 35 = .ok (.iadd, 1) := by decide +kernel
theorem dX4_momentumAlong_36 : decode cX4_momentumAlong 36 = .ok (.iaload, 1) := by decide +kernel
theorem dX4_momentumAlong_37 : decode cX4_momentumAlong 37 = .ok (.i2f, 1) := by decide +kernel
theorem dX4_momentumAlong_38 : decode cX4_momentumAlong 38 = .ok (.aload_n 0, 1) := by decide +kernel
theorem dX4_momentumAlong_39 : decode cX4_momentumAlong 39 = .ok (.getfield 9, 3) := by decide +kernel
theorem dX4_momentumAlong_42 : decode cX4_momentumAlong 42 = .ok (.iconst 2, 1) := by decide +kernel
theorem dX4_momentumAlong_43 : decode cX4_momentumAlong 43 = .ok (.faload, 1) := by decide +kernel
theorem dX4_momentumAlong_44 : decode cX4_momentumAlong 44 = .ok (.fmul, 1) := by decide +kernel
theorem dX4_momentumAlong_45 : decode cX4_momentumAlong 45 = .ok (.fadd, 1) := by decide +kernel
theorem dX4_momentumAlong_46 : decode cX4_momentumAlong 46 = .ok (.getstatic 70, 3) := by decide +kernel
theorem dX4_momentumAlong_49 : decode cX4_momentumAlong 49 = .ok (.bipush 9, 2) := by decide +kernel
theorem dX4_momentumAlong_51 : decode cX4_momentumAlong 51 = .ok (.iload_n 1, 1) := by decide +kernel
theorem dX4_momentumAlong_52 : decode cX4_momentumAlong 52 = .ok (.iadd, 1) := by decide +kernel
theorem dX4_momentumAlong_53 : decode cX4_momentumAlong 53 = .ok (.iaload, 1) := by decide +kernel
theorem dX4_momentumAlong_54 : decode cX4_momentumAlong 54 = .ok (.i2f, 1) := by decide +kernel
theorem dX4_momentumAlong_55 : decode cX4_momentumAlong 55 = .ok (.aload_n 0, 1) := by decide +kernel
theorem dX4_momentumAlong_56 : decode cX4_momentumAlong 56 = .ok (.getfield 9, 3) := by decide +kernel
theorem dX4_momentumAlong_59 : decode cX4_momentumAlong 59 = .ok (.iconst 3, 1) := by decide +kernel
theorem dX4_momentumAlong_60 : decode cX4_momentumAlong 60 = .ok (.faload, 1) := by decide +kernel
theorem dX4_momentumAlong_61 : decode cX4_momentumAlong 61 = .ok (.fmul, 1) := by decide +kernel
theorem dX4_momentumAlong_62 : decode cX4_momentumAlong 62 = .ok (.fadd, 1) := by decide +kernel
theorem dX4_momentumAlong_63 : decode cX4_momentumAlong 63 = .ok (.freturn, 1) := by decide +kernel
theorem inX4_momentumAlong_X4 : ∀ w ∈ u_ws RX4 TX4 11, w ∈ wsX4_momentumAlong := fun w h => List.mem_cons_of_mem _ (List.mem_append_right _ h)
set_option maxRecDepth 100000 in
set_option maxHeartbeats 4000000 in
theorem m_X4_momentumAlong {l : Launch} {D : va_G} {E : Nat → ClassId} {T : Nat → Nat} (h : Nat) (v1 : Value) (v2 : Value) (v3 : Value) (v4 : Value) (v5 : Value) (v6 : Value) (v7 : Value) (v8 : Value) (v9 : Value) (v10 : Value) (hs : Nat) (f : Nat → UInt32) (k : Nat) (hf : ∀ j, j < 4 → g_mg 135 (f j)) (hk : k < 3) : g_M l D E T yX4_momentumAlong wsX4_momentumAlong 0 0 [.ref h, .int (nI k)] [(h, .inr (4, [.ref hs, v1, v2, v3, v4, v5, v6, v7, v8, v9, v10])), (hs, .inl (E 1, 4, .inr (.inr (.inl f))))] [(h, .inr (4, [.ref hs, v1, v2, v3, v4, v5, v6, v7, v8, v9, v10])), (hs, .inl (E 1, 4, .inr (.inr (.inl f))))] (some (.float (moF f k))) := by
  refine g_M.of (cc := cX4_momentumAlong) (nL := 2) (ret := (some .float)) (own := RX4) (lv := [(0, .ref h), (1, .int (nI k))]) (by decide) rfl rfl (Nat.le_of_ble_eq_true rfl) rfl ?_
  intro p e R s m args below meth c A Q H locs ls hR hQ hc hr hw hl
  have hx := hc.1
  have hb := hc.2.1
  have hts := hc.2.2.2.1
  have hown := hc.2.2.2.2.1
  refine g_gstN hc hw 0 54 (by decide) rfl dX4_momentumAlong_0 ?_
  refine lv_iload_n hx hb dX4_momentumAlong_3 rfl (lv_at hl 1 rfl) ?_
  refine g_tld hc hw 0 k (by decide) rfl (by first | decide | (show _ < 12; omega)) dX4_momentumAlong_4 ?_
  refine lv_i2f hx hb dX4_momentumAlong_5 ?_
  refine lv_aload_n hx hb dX4_momentumAlong_6 rfl (lv_at hl 0 rfl) ?_
  refine g_get (TT := TX4) hc hw inX4_momentumAlong_X4 0 0 1 rfl rfl (by decide) rfl rfl dX4_momentumAlong_7 ?_
  refine lv_iconst (v := 0) hx hb dX4_momentumAlong_10 (by decide) ?_
  refine g_fld hc hw 1 0 rfl rfl (by omega) (by decide) dX4_momentumAlong_11 ?_
  refine lv_fmul hx hb dX4_momentumAlong_12 (g_nn (g_mgmul (Ka := 128) (Kb := 135) (K := 137) (g_mgax _ (by omega)) (hf 0 (by omega)) (by decide) (by decide)) (by decide)) ?_
  refine g_gstN hc hw 0 54 (by decide) rfl dX4_momentumAlong_13 ?_
  refine lv_iconst (v := 3) hx hb dX4_momentumAlong_16 (by decide) ?_
  refine lv_iload_n hx hb dX4_momentumAlong_17 rfl (lv_at hl 1 rfl) ?_
  refine lv_iadd hx hb dX4_momentumAlong_18 ?_
  refine g_tld hc hw 0 (3 + k) (by decide) (n_add rfl rfl) (by first | decide | (show _ < 12; omega)) dX4_momentumAlong_19 ?_
  refine lv_i2f hx hb dX4_momentumAlong_20 ?_
  refine lv_aload_n hx hb dX4_momentumAlong_21 rfl (lv_at hl 0 rfl) ?_
  refine g_get (TT := TX4) hc hw inX4_momentumAlong_X4 0 0 1 rfl rfl (by decide) rfl rfl dX4_momentumAlong_22 ?_
  refine lv_iconst (v := 1) hx hb dX4_momentumAlong_25 (by decide) ?_
  refine g_fld hc hw 1 1 rfl rfl (by omega) (by decide) dX4_momentumAlong_26 ?_
  refine lv_fmul hx hb dX4_momentumAlong_27 (g_nn (g_mgmul (Ka := 128) (Kb := 135) (K := 137) (g_mgax _ (by omega)) (hf 1 (by omega)) (by decide) (by decide)) (by decide)) ?_
  refine lv_fadd hx hb dX4_momentumAlong_28 (g_nn (g_mgadd (Ka := 137) (Kb := 137) (K := 137) (g_mgmul (Ka := 128) (Kb := 135) (K := 137) (g_mgax _ (by omega)) (hf 0 (by omega)) (by decide) (by decide)) (g_mgmul (Ka := 128) (Kb := 135) (K := 137) (g_mgax _ (by omega)) (hf 1 (by omega)) (by decide) (by decide)) (by decide) (by decide) (by decide)) (by decide)) ?_
  refine g_gstN hc hw 0 54 (by decide) rfl dX4_momentumAlong_29 ?_
  refine lv_bipush (v := 6) hx hb dX4_momentumAlong_32 (by decide) ?_
  refine lv_iload_n hx hb dX4_momentumAlong_34 rfl (lv_at hl 1 rfl) ?_
  refine lv_iadd hx hb dX4_momentumAlong_35 ?_
  refine g_tld hc hw 0 (6 + k) (by decide) (n_add rfl rfl) (by first | decide | (show _ < 12; omega)) dX4_momentumAlong_36 ?_
  refine lv_i2f hx hb dX4_momentumAlong_37 ?_
  refine lv_aload_n hx hb dX4_momentumAlong_38 rfl (lv_at hl 0 rfl) ?_
  refine g_get (TT := TX4) hc hw inX4_momentumAlong_X4 0 0 1 rfl rfl (by decide) rfl rfl dX4_momentumAlong_39 ?_
  refine lv_iconst (v := 2) hx hb dX4_momentumAlong_42 (by decide) ?_
  refine g_fld hc hw 1 2 rfl rfl (by omega) (by decide) dX4_momentumAlong_43 ?_
  refine lv_fmul hx hb dX4_momentumAlong_44 (g_nn (g_mgmul (Ka := 128) (Kb := 135) (K := 137) (g_mgax _ (by omega)) (hf 2 (by omega)) (by decide) (by decide)) (by decide)) ?_
  refine lv_fadd hx hb dX4_momentumAlong_45 (g_nn (g_mgadd (Ka := 139) (Kb := 137) (K := 139) (g_mgadd (Ka := 137) (Kb := 137) (K := 137) (g_mgmul (Ka := 128) (Kb := 135) (K := 137) (g_mgax _ (by omega)) (hf 0 (by omega)) (by decide) (by decide)) (g_mgmul (Ka := 128) (Kb := 135) (K := 137) (g_mgax _ (by omega)) (hf 1 (by omega)) (by decide) (by decide)) (by decide) (by decide) (by decide)) (g_mgmul (Ka := 128) (Kb := 135) (K := 137) (g_mgax _ (by omega)) (hf 2 (by omega)) (by decide) (by decide)) (by decide) (by decide) (by decide)) (by decide)) ?_
  refine g_gstN hc hw 0 54 (by decide) rfl dX4_momentumAlong_46 ?_
  refine lv_bipush (v := 9) hx hb dX4_momentumAlong_49 (by decide) ?_
  refine lv_iload_n hx hb dX4_momentumAlong_51 rfl (lv_at hl 1 rfl) ?_
  refine lv_iadd hx hb dX4_momentumAlong_52 ?_
  refine g_tld hc hw 0 (9 + k) (by decide) (n_add rfl rfl) (by first | decide | (show _ < 12; omega)) dX4_momentumAlong_53 ?_
  refine lv_i2f hx hb dX4_momentumAlong_54 ?_
  refine lv_aload_n hx hb dX4_momentumAlong_55 rfl (lv_at hl 0 rfl) ?_
  refine g_get (TT := TX4) hc hw inX4_momentumAlong_X4 0 0 1 rfl rfl (by decide) rfl rfl dX4_momentumAlong_56 ?_
  refine lv_iconst (v := 3) hx hb dX4_momentumAlong_59 (by decide) ?_
  refine g_fld hc hw 1 3 rfl rfl (by omega) (by decide) dX4_momentumAlong_60 ?_
  refine lv_fmul hx hb dX4_momentumAlong_61 (g_nn (g_mgmul (Ka := 128) (Kb := 135) (K := 137) (g_mgax _ (by omega)) (hf 3 (by omega)) (by decide) (by decide)) (by decide)) ?_
  refine lv_fadd hx hb dX4_momentumAlong_62 (g_nn (g_mgadd (Ka := 141) (Kb := 137) (K := 141) (g_mgadd (Ka := 139) (Kb := 137) (K := 139) (g_mgadd (Ka := 137) (Kb := 137) (K := 137) (g_mgmul (Ka := 128) (Kb := 135) (K := 137) (g_mgax _ (by omega)) (hf 0 (by omega)) (by decide) (by decide)) (g_mgmul (Ka := 128) (Kb := 135) (K := 137) (g_mgax _ (by omega)) (hf 1 (by omega)) (by decide) (by decide)) (by decide) (by decide) (by decide)) (g_mgmul (Ka := 128) (Kb := 135) (K := 137) (g_mgax _ (by omega)) (hf 2 (by omega)) (by decide) (by decide)) (by decide) (by decide) (by decide)) (g_mgmul (Ka := 128) (Kb := 135) (K := 137) (g_mgax _ (by omega)) (hf 3 (by omega)) (by decide) (by decide)) (by decide) (by decide) (by decide)) (by decide)) ?_
  exact g_fret hQ hc hw hr rfl rfl dX4_momentumAlong_63

theorem dX4_copyFrom_0 : decode cX4_copyFrom 0 = .ok (.aload_n 1, 1) := by decide +kernel
theorem dX4_copyFrom_1 : decode cX4_copyFrom 1 = .ok (.getfield 9, 3) := by decide +kernel
theorem dX4_copyFrom_4 : decode cX4_copyFrom 4 = .ok (.iconst 0, 1) := by decide +kernel
theorem dX4_copyFrom_5 : decode cX4_copyFrom 5 = .ok (.aload_n 0, 1) := by decide +kernel
theorem dX4_copyFrom_6 : decode cX4_copyFrom 6 = .ok (.getfield 9, 3) := by decide +kernel
theorem dX4_copyFrom_9 : decode cX4_copyFrom 9 = .ok (.iconst 0, 1) := by decide +kernel
theorem dX4_copyFrom_10 : decode cX4_copyFrom 10 = .ok (.iconst 4, 1) := by decide +kernel
theorem dX4_copyFrom_11 : decode cX4_copyFrom 11 = .ok (.invokestatic 25, 3) := by decide +kernel
theorem dX4_copyFrom_14 : decode cX4_copyFrom 14 = .ok (.aload_n 1, 1) := by decide +kernel
theorem dX4_copyFrom_15 : decode cX4_copyFrom 15 = .ok (.getfield 15, 3) := by decide +kernel
theorem dX4_copyFrom_18 : decode cX4_copyFrom 18 = .ok (.iconst 0, 1) := by decide +kernel
theorem dX4_copyFrom_19 : decode cX4_copyFrom 19 = .ok (.aload_n 0, 1) := by decide +kernel
theorem dX4_copyFrom_20 : decode cX4_copyFrom 20 = .ok (.getfield 15, 3) := by decide +kernel
theorem dX4_copyFrom_23 : decode cX4_copyFrom 23 = .ok (.iconst 0, 1) := by decide +kernel
theorem dX4_copyFrom_24 : decode cX4_copyFrom 24 = .ok (.iconst 4, 1) := by decide +kernel
theorem dX4_copyFrom_25 : decode cX4_copyFrom 25 = .ok (.invokestatic 25, 3) := by decide +kernel
theorem dX4_copyFrom_28 : decode cX4_copyFrom 28 = .ok (.aload_n 1, 1) := by decide +kernel
theorem dX4_copyFrom_29 : decode cX4_copyFrom 29 = .ok (.getfield 19, 3) := by decide +kernel
theorem dX4_copyFrom_32 : decode cX4_copyFrom 32 = .ok (.iconst 0, 1) := by decide +kernel
theorem dX4_copyFrom_33 : decode cX4_copyFrom 33 = .ok (.aload_n 0, 1) := by decide +kernel
theorem dX4_copyFrom_34 : decode cX4_copyFrom 34 = .ok (.getfield 19, 3) := by decide +kernel
theorem dX4_copyFrom_37 : decode cX4_copyFrom 37 = .ok (.iconst 0, 1) := by decide +kernel
theorem dX4_copyFrom_38 : decode cX4_copyFrom 38 = .ok (.bipush 18, 2) := by decide +kernel
theorem dX4_copyFrom_40 : decode cX4_copyFrom 40 = .ok (.invokestatic 25, 3) := by decide +kernel
theorem dX4_copyFrom_43 : decode cX4_copyFrom 43 = .ok (.aload_n 0, 1) := by decide +kernel
theorem dX4_copyFrom_44 : decode cX4_copyFrom 44 = .ok (.aload_n 1, 1) := by decide +kernel
theorem dX4_copyFrom_45 : decode cX4_copyFrom 45 = .ok (.getfield 31, 3) := by decide +kernel
theorem dX4_copyFrom_48 : decode cX4_copyFrom 48 = .ok (.putfield 31, 3) := by decide +kernel
theorem dX4_copyFrom_51 : decode cX4_copyFrom 51 = .ok (.aload_n 0, 1) := by decide +kernel
theorem dX4_copyFrom_52 : decode cX4_copyFrom 52 = .ok (.aload_n 1, 1) := by decide +kernel
theorem dX4_copyFrom_53 : decode cX4_copyFrom 53 = .ok (.getfield 35, 3) := by decide +kernel
theorem dX4_copyFrom_56 : decode cX4_copyFrom 56 = .ok (.putfield 35, 3) := by decide +kernel
theorem dX4_copyFrom_59 : decode cX4_copyFrom 59 = .ok (.aload_n 0, 1) := by decide +kernel
theorem dX4_copyFrom_60 : decode cX4_copyFrom 60 = .ok (.aload_n 1, 1) := by decide +kernel
theorem dX4_copyFrom_61 : decode cX4_copyFrom 61 = .ok (.getfield 38, 3) := by decide +kernel
theorem dX4_copyFrom_64 : decode cX4_copyFrom 64 = .ok (.putfield 38, 3) := by decide +kernel
theorem dX4_copyFrom_67 : decode cX4_copyFrom 67 = .ok (.aload_n 0, 1) := by decide +kernel
theorem dX4_copyFrom_68 : decode cX4_copyFrom 68 = .ok (.aload_n 1, 1) := by decide +kernel
theorem dX4_copyFrom_69 : decode cX4_copyFrom 69 = .ok (.getfield 42, 3) := by decide +kernel
theorem dX4_copyFrom_72 : decode cX4_copyFrom 72 = .ok (.putfield 42, 3) := by decide +kernel
theorem dX4_copyFrom_75 : decode cX4_copyFrom 75 = .ok (.aload_n 0, 1) := by decide +kernel
theorem dX4_copyFrom_76 : decode cX4_copyFrom 76 = .ok (.aload_n 1, 1) := by decide +kernel
theorem dX4_copyFrom_77 : decode cX4_copyFrom 77 = .ok (.getfield 45, 3) := by decide +kernel
theorem dX4_copyFrom_80 : decode cX4_copyFrom 80 = .ok (.putfield 45, 3) := by decide +kernel
theorem dX4_copyFrom_83 : decode cX4_copyFrom 83 = .ok (.aload_n 0, 1) := by decide +kernel
theorem dX4_copyFrom_84 : decode cX4_copyFrom 84 = .ok (.aload_n 1, 1) := by decide +kernel
theorem dX4_copyFrom_85 : decode cX4_copyFrom 85 = .ok (.getfield 48, 3) := by decide +kernel
theorem dX4_copyFrom_88 : decode cX4_copyFrom 88 = .ok (.putfield 48, 3) := by decide +kernel
theorem dX4_copyFrom_91 : decode cX4_copyFrom 91 = .ok (.aload_n 0, 1) := by decide +kernel
theorem dX4_copyFrom_92 : decode cX4_copyFrom 92 = .ok (.aload_n 1, 1) := by decide +kernel
theorem dX4_copyFrom_93 : decode cX4_copyFrom 93 = .ok (.getfield 51, 3) := by decide +kernel
theorem dX4_copyFrom_96 : decode cX4_copyFrom 96 = .ok (.putfield 51, 3) := by decide +kernel
theorem dX4_copyFrom_99 : decode cX4_copyFrom 99 = .ok (.aload_n 0, 1) := by decide +kernel
theorem dX4_copyFrom_100 : decode cX4_copyFrom 100 = .ok (.aload_n 1, 1) := by decide +kernel
theorem dX4_copyFrom_101 : decode cX4_copyFrom 101 = .ok (.getfield 54, 3) := by decide +kernel
theorem dX4_copyFrom_104 : decode cX4_copyFrom 104 = .ok (.putfield 54, 3) := by decide +kernel
theorem dX4_copyFrom_107 : decode cX4_copyFrom 107 = .ok (.return_, 1) := by decide +kernel
theorem inX4_copyFrom_X4 : ∀ w ∈ u_ws RX4 TX4 11, w ∈ wsX4_copyFrom := fun w h => List.mem_cons_of_mem _ (List.mem_append_right _ h)
set_option maxRecDepth 100000 in
set_option maxHeartbeats 4000000 in
theorem m_X4_copyFrom {l : Launch} {D : va_G} {E : Nat → ClassId} {T : Nat → Nat} (h : Nat) (hs : Nat) (ht : Nat) (hq : Nat) (o : Nat) (os : Nat) (ot : Nat) (ow : Nat) (d : Int32) (mo : Int32) (sp : UInt32) (mi : Int32) (cr : Int32) (sa : Int32) (ru : Int32) (ck : Int32) (gd : Int32) (gmo : Int32) (gsp : UInt32) (gmi : Int32) (gcr : Int32) (gsa : Int32) (gru : Int32) (gck : Int32) (f : Nat → UInt32) (t : Nat → Int32) (w : Nat → Int32) (gf : Nat → UInt32) (gt : Nat → Int32) (gw : Nat → Int32)  : g_M l D E T yX4_copyFrom wsX4_copyFrom 1 18 [.ref h, .ref o] [(h, .inr (4, [.ref hs, .ref ht, .ref hq, .int gd, .int gmo, .float gsp, .int gmi, .int gcr, .int gsa, .int gru, .int gck])), (hs, .inl (E 1, 4, .inr (.inr (.inl gf)))), (ht, .inl (E 0, 4, .inl gt)), (hq, .inl (E 0, 18, .inl gw)), (o, .inr (4, [.ref os, .ref ot, .ref ow, .int d, .int mo, .float sp, .int mi, .int cr, .int sa, .int ru, .int ck])), (os, .inl (E 1, 4, .inr (.inr (.inl f)))), (ot, .inl (E 0, 4, .inl t)), (ow, .inl (E 0, 18, .inl w))] [(h, .inr (4, [.ref hs, .ref ht, .ref hq, .int d, .int mo, .float sp, .int mi, .int cr, .int sa, .int ru, .int ck])), (hs, .inl (E 1, 4, .inr (.inr (.inl f)))), (ht, .inl (E 0, 4, .inl t)), (hq, .inl (E 0, 18, .inl w)), (o, .inr (4, [.ref os, .ref ot, .ref ow, .int d, .int mo, .float sp, .int mi, .int cr, .int sa, .int ru, .int ck])), (os, .inl (E 1, 4, .inr (.inr (.inl f)))), (ot, .inl (E 0, 4, .inl t)), (ow, .inl (E 0, 18, .inl w))] none := by
  refine g_M.of (cc := cX4_copyFrom) (nL := 2) (ret := none) (own := RX4) (lv := [(0, .ref h), (1, .ref o)]) (by decide) rfl rfl (Nat.le_of_ble_eq_true rfl) rfl ?_
  intro p e R s m args below meth c A Q H locs ls hR hQ hc hr hw hl
  have hx := hc.1
  have hb := hc.2.1
  have hts := hc.2.2.2.1
  have hown := hc.2.2.2.2.1
  refine lv_aload_n hx hb dX4_copyFrom_0 rfl (lv_at hl 1 rfl) ?_
  refine g_get (TT := TX4) hc hw inX4_copyFrom_X4 4 0 1 rfl rfl (by decide) rfl rfl dX4_copyFrom_1 ?_
  refine lv_iconst (v := 0) hx hb dX4_copyFrom_4 (by decide) ?_
  refine lv_aload_n hx hb dX4_copyFrom_5 rfl (lv_at hl 0 rfl) ?_
  refine g_get (TT := TX4) hc hw inX4_copyFrom_X4 0 0 1 rfl rfl (by decide) rfl rfl dX4_copyFrom_6 ?_
  refine lv_iconst (v := 0) hx hb dX4_copyFrom_9 (by decide) ?_
  refine lv_iconst (v := 4) hx hb dX4_copyFrom_10 (by decide) ?_
  refine g_copyF hc hw hl.1 5 1 2 3 4 5 rfl rfl rfl (by decide) rfl rfl rfl rfl (by rw [hR]; exact Nat.le_of_ble_eq_true rfl) (by rw [hR]; exact Nat.le_of_ble_eq_true rfl) dX4_copyFrom_11 (fun H locs hw => ?_)
  have hw : g_W D A s [(h, .inr (4, [.ref hs, .ref ht, .ref hq, .int gd, .int gmo, .float gsp, .int gmi, .int gcr, .int gsa, .int gru, .int gck])), (hs, .inl (E 1, 4, .inr (.inr (.inl f)))), (ht, .inl (E 0, 4, .inl gt)), (hq, .inl (E 0, 18, .inl gw)), (o, .inr (4, [.ref os, .ref ot, .ref ow, .int d, .int mo, .float sp, .int mi, .int cr, .int sa, .int ru, .int ck])), (os, .inl (E 1, 4, .inr (.inr (.inl f)))), (ot, .inl (E 0, 4, .inl t)), (ow, .inl (E 0, 18, .inl w))] H locs := hw
  refine lv_aload_n hx hb dX4_copyFrom_14 rfl (lv_at hl 1 rfl) ?_
  refine g_get (TT := TX4) hc hw inX4_copyFrom_X4 4 1 6 rfl rfl (by decide) rfl rfl dX4_copyFrom_15 ?_
  refine lv_iconst (v := 0) hx hb dX4_copyFrom_18 (by decide) ?_
  refine lv_aload_n hx hb dX4_copyFrom_19 rfl (lv_at hl 0 rfl) ?_
  refine g_get (TT := TX4) hc hw inX4_copyFrom_X4 0 1 6 rfl rfl (by decide) rfl rfl dX4_copyFrom_20 ?_
  refine lv_iconst (v := 0) hx hb dX4_copyFrom_23 (by decide) ?_
  refine lv_iconst (v := 4) hx hb dX4_copyFrom_24 (by decide) ?_
  refine g_copyI hc hw hl.1 6 2 2 3 4 5 rfl rfl rfl (by decide) rfl rfl rfl rfl (by rw [hR]; exact Nat.le_of_ble_eq_true rfl) (by rw [hR]; exact Nat.le_of_ble_eq_true rfl) dX4_copyFrom_25 (fun H locs hw => ?_)
  have hw : g_W D A s [(h, .inr (4, [.ref hs, .ref ht, .ref hq, .int gd, .int gmo, .float gsp, .int gmi, .int gcr, .int gsa, .int gru, .int gck])), (hs, .inl (E 1, 4, .inr (.inr (.inl f)))), (ht, .inl (E 0, 4, .inl t)), (hq, .inl (E 0, 18, .inl gw)), (o, .inr (4, [.ref os, .ref ot, .ref ow, .int d, .int mo, .float sp, .int mi, .int cr, .int sa, .int ru, .int ck])), (os, .inl (E 1, 4, .inr (.inr (.inl f)))), (ot, .inl (E 0, 4, .inl t)), (ow, .inl (E 0, 18, .inl w))] H locs := hw
  refine lv_aload_n hx hb dX4_copyFrom_28 rfl (lv_at hl 1 rfl) ?_
  refine g_get (TT := TX4) hc hw inX4_copyFrom_X4 4 2 7 rfl rfl (by decide) rfl rfl dX4_copyFrom_29 ?_
  refine lv_iconst (v := 0) hx hb dX4_copyFrom_32 (by decide) ?_
  refine lv_aload_n hx hb dX4_copyFrom_33 rfl (lv_at hl 0 rfl) ?_
  refine g_get (TT := TX4) hc hw inX4_copyFrom_X4 0 2 7 rfl rfl (by decide) rfl rfl dX4_copyFrom_34 ?_
  refine lv_iconst (v := 0) hx hb dX4_copyFrom_37 (by decide) ?_
  refine lv_bipush (v := 18) hx hb dX4_copyFrom_38 (by decide) ?_
  refine g_copyI hc hw hl.1 7 3 2 3 4 5 rfl rfl rfl (by decide) rfl rfl rfl rfl (by rw [hR]; exact Nat.le_of_ble_eq_true rfl) (by rw [hR]; exact Nat.le_of_ble_eq_true rfl) dX4_copyFrom_40 (fun H locs hw => ?_)
  have hw : g_W D A s [(h, .inr (4, [.ref hs, .ref ht, .ref hq, .int gd, .int gmo, .float gsp, .int gmi, .int gcr, .int gsa, .int gru, .int gck])), (hs, .inl (E 1, 4, .inr (.inr (.inl f)))), (ht, .inl (E 0, 4, .inl t)), (hq, .inl (E 0, 18, .inl w)), (o, .inr (4, [.ref os, .ref ot, .ref ow, .int d, .int mo, .float sp, .int mi, .int cr, .int sa, .int ru, .int ck])), (os, .inl (E 1, 4, .inr (.inr (.inl f)))), (ot, .inl (E 0, 4, .inl t)), (ow, .inl (E 0, 18, .inl w))] H locs := hw
  refine lv_aload_n hx hb dX4_copyFrom_43 rfl (lv_at hl 0 rfl) ?_
  refine lv_aload_n hx hb dX4_copyFrom_44 rfl (lv_at hl 1 rfl) ?_
  refine g_get (TT := TX4) hc hw inX4_copyFrom_X4 4 3 8 rfl rfl (by decide) rfl rfl dX4_copyFrom_45 ?_
  refine g_put (TT := TX4) hc hw inX4_copyFrom_X4 tyX4 tyX4_ok nmX4 0 3 8 rfl rfl (by decide) rfl rfl rfl rfl (Nat.le_of_ble_eq_true rfl) dX4_copyFrom_48 (fun H locs hw => ?_)
  have hw : g_W D A s [(h, .inr (4, [.ref hs, .ref ht, .ref hq, .int d, .int gmo, .float gsp, .int gmi, .int gcr, .int gsa, .int gru, .int gck])), (hs, .inl (E 1, 4, .inr (.inr (.inl f)))), (ht, .inl (E 0, 4, .inl t)), (hq, .inl (E 0, 18, .inl w)), (o, .inr (4, [.ref os, .ref ot, .ref ow, .int d, .int mo, .float sp, .int mi, .int cr, .int sa, .int ru, .int ck])), (os, .inl (E 1, 4, .inr (.inr (.inl f)))), (ot, .inl (E 0, 4, .inl t)), (ow, .inl (E 0, 18, .inl w))] H locs := hw
  refine lv_aload_n hx hb dX4_copyFrom_51 rfl (lv_at hl 0 rfl) ?_
  refine lv_aload_n hx hb dX4_copyFrom_52 rfl (lv_at hl 1 rfl) ?_
  refine g_get (TT := TX4) hc hw inX4_copyFrom_X4 4 4 9 rfl rfl (by decide) rfl rfl dX4_copyFrom_53 ?_
  refine g_put (TT := TX4) hc hw inX4_copyFrom_X4 tyX4 tyX4_ok nmX4 0 4 9 rfl rfl (by decide) rfl rfl rfl rfl (Nat.le_of_ble_eq_true rfl) dX4_copyFrom_56 (fun H locs hw => ?_)
  have hw : g_W D A s [(h, .inr (4, [.ref hs, .ref ht, .ref hq, .int d, .int mo, .float gsp, .int gmi, .int gcr, .int gsa, .int gru, .int gck])), (hs, .inl (E 1, 4, .inr (.inr (.inl f)))), (ht, .inl (E 0, 4, .inl t)), (hq, .inl (E 0, 18, .inl w)), (o, .inr (4, [.ref os, .ref ot, .ref ow, .int d, .int mo, .float sp, .int mi, .int cr, .int sa, .int ru, .int ck])), (os, .inl (E 1, 4, .inr (.inr (.inl f)))), (ot, .inl (E 0, 4, .inl t)), (ow, .inl (E 0, 18, .inl w))] H locs := hw
  refine lv_aload_n hx hb dX4_copyFrom_59 rfl (lv_at hl 0 rfl) ?_
  refine lv_aload_n hx hb dX4_copyFrom_60 rfl (lv_at hl 1 rfl) ?_
  refine g_get (TT := TX4) hc hw inX4_copyFrom_X4 4 5 10 rfl rfl (by decide) rfl rfl dX4_copyFrom_61 ?_
  refine g_put (TT := TX4) hc hw inX4_copyFrom_X4 tyX4 tyX4_ok nmX4 0 5 10 rfl rfl (by decide) rfl rfl rfl rfl (Nat.le_of_ble_eq_true rfl) dX4_copyFrom_64 (fun H locs hw => ?_)
  have hw : g_W D A s [(h, .inr (4, [.ref hs, .ref ht, .ref hq, .int d, .int mo, .float sp, .int gmi, .int gcr, .int gsa, .int gru, .int gck])), (hs, .inl (E 1, 4, .inr (.inr (.inl f)))), (ht, .inl (E 0, 4, .inl t)), (hq, .inl (E 0, 18, .inl w)), (o, .inr (4, [.ref os, .ref ot, .ref ow, .int d, .int mo, .float sp, .int mi, .int cr, .int sa, .int ru, .int ck])), (os, .inl (E 1, 4, .inr (.inr (.inl f)))), (ot, .inl (E 0, 4, .inl t)), (ow, .inl (E 0, 18, .inl w))] H locs := hw
  refine lv_aload_n hx hb dX4_copyFrom_67 rfl (lv_at hl 0 rfl) ?_
  refine lv_aload_n hx hb dX4_copyFrom_68 rfl (lv_at hl 1 rfl) ?_
  refine g_get (TT := TX4) hc hw inX4_copyFrom_X4 4 6 11 rfl rfl (by decide) rfl rfl dX4_copyFrom_69 ?_
  refine g_put (TT := TX4) hc hw inX4_copyFrom_X4 tyX4 tyX4_ok nmX4 0 6 11 rfl rfl (by decide) rfl rfl rfl rfl (Nat.le_of_ble_eq_true rfl) dX4_copyFrom_72 (fun H locs hw => ?_)
  have hw : g_W D A s [(h, .inr (4, [.ref hs, .ref ht, .ref hq, .int d, .int mo, .float sp, .int mi, .int gcr, .int gsa, .int gru, .int gck])), (hs, .inl (E 1, 4, .inr (.inr (.inl f)))), (ht, .inl (E 0, 4, .inl t)), (hq, .inl (E 0, 18, .inl w)), (o, .inr (4, [.ref os, .ref ot, .ref ow, .int d, .int mo, .float sp, .int mi, .int cr, .int sa, .int ru, .int ck])), (os, .inl (E 1, 4, .inr (.inr (.inl f)))), (ot, .inl (E 0, 4, .inl t)), (ow, .inl (E 0, 18, .inl w))] H locs := hw
  refine lv_aload_n hx hb dX4_copyFrom_75 rfl (lv_at hl 0 rfl) ?_
  refine lv_aload_n hx hb dX4_copyFrom_76 rfl (lv_at hl 1 rfl) ?_
  refine g_get (TT := TX4) hc hw inX4_copyFrom_X4 4 7 12 rfl rfl (by decide) rfl rfl dX4_copyFrom_77 ?_
  refine g_put (TT := TX4) hc hw inX4_copyFrom_X4 tyX4 tyX4_ok nmX4 0 7 12 rfl rfl (by decide) rfl rfl rfl rfl (Nat.le_of_ble_eq_true rfl) dX4_copyFrom_80 (fun H locs hw => ?_)
  have hw : g_W D A s [(h, .inr (4, [.ref hs, .ref ht, .ref hq, .int d, .int mo, .float sp, .int mi, .int cr, .int gsa, .int gru, .int gck])), (hs, .inl (E 1, 4, .inr (.inr (.inl f)))), (ht, .inl (E 0, 4, .inl t)), (hq, .inl (E 0, 18, .inl w)), (o, .inr (4, [.ref os, .ref ot, .ref ow, .int d, .int mo, .float sp, .int mi, .int cr, .int sa, .int ru, .int ck])), (os, .inl (E 1, 4, .inr (.inr (.inl f)))), (ot, .inl (E 0, 4, .inl t)), (ow, .inl (E 0, 18, .inl w))] H locs := hw
  refine lv_aload_n hx hb dX4_copyFrom_83 rfl (lv_at hl 0 rfl) ?_
  refine lv_aload_n hx hb dX4_copyFrom_84 rfl (lv_at hl 1 rfl) ?_
  refine g_get (TT := TX4) hc hw inX4_copyFrom_X4 4 8 13 rfl rfl (by decide) rfl rfl dX4_copyFrom_85 ?_
  refine g_put (TT := TX4) hc hw inX4_copyFrom_X4 tyX4 tyX4_ok nmX4 0 8 13 rfl rfl (by decide) rfl rfl rfl rfl (Nat.le_of_ble_eq_true rfl) dX4_copyFrom_88 (fun H locs hw => ?_)
  have hw : g_W D A s [(h, .inr (4, [.ref hs, .ref ht, .ref hq, .int d, .int mo, .float sp, .int mi, .int cr, .int sa, .int gru, .int gck])), (hs, .inl (E 1, 4, .inr (.inr (.inl f)))), (ht, .inl (E 0, 4, .inl t)), (hq, .inl (E 0, 18, .inl w)), (o, .inr (4, [.ref os, .ref ot, .ref ow, .int d, .int mo, .float sp, .int mi, .int cr, .int sa, .int ru, .int ck])), (os, .inl (E 1, 4, .inr (.inr (.inl f)))), (ot, .inl (E 0, 4, .inl t)), (ow, .inl (E 0, 18, .inl w))] H locs := hw
  refine lv_aload_n hx hb dX4_copyFrom_91 rfl (lv_at hl 0 rfl) ?_
  refine lv_aload_n hx hb dX4_copyFrom_92 rfl (lv_at hl 1 rfl) ?_
  refine g_get (TT := TX4) hc hw inX4_copyFrom_X4 4 9 14 rfl rfl (by decide) rfl rfl dX4_copyFrom_93 ?_
  refine g_put (TT := TX4) hc hw inX4_copyFrom_X4 tyX4 tyX4_ok nmX4 0 9 14 rfl rfl (by decide) rfl rfl rfl rfl (Nat.le_of_ble_eq_true rfl) dX4_copyFrom_96 (fun H locs hw => ?_)
  have hw : g_W D A s [(h, .inr (4, [.ref hs, .ref ht, .ref hq, .int d, .int mo, .float sp, .int mi, .int cr, .int sa, .int ru, .int gck])), (hs, .inl (E 1, 4, .inr (.inr (.inl f)))), (ht, .inl (E 0, 4, .inl t)), (hq, .inl (E 0, 18, .inl w)), (o, .inr (4, [.ref os, .ref ot, .ref ow, .int d, .int mo, .float sp, .int mi, .int cr, .int sa, .int ru, .int ck])), (os, .inl (E 1, 4, .inr (.inr (.inl f)))), (ot, .inl (E 0, 4, .inl t)), (ow, .inl (E 0, 18, .inl w))] H locs := hw
  refine lv_aload_n hx hb dX4_copyFrom_99 rfl (lv_at hl 0 rfl) ?_
  refine lv_aload_n hx hb dX4_copyFrom_100 rfl (lv_at hl 1 rfl) ?_
  refine g_get (TT := TX4) hc hw inX4_copyFrom_X4 4 10 15 rfl rfl (by decide) rfl rfl dX4_copyFrom_101 ?_
  refine g_put (TT := TX4) hc hw inX4_copyFrom_X4 tyX4 tyX4_ok nmX4 0 10 15 rfl rfl (by decide) rfl rfl rfl rfl (Nat.le_of_ble_eq_true rfl) dX4_copyFrom_104 (fun H locs hw => ?_)
  have hw : g_W D A s [(h, .inr (4, [.ref hs, .ref ht, .ref hq, .int d, .int mo, .float sp, .int mi, .int cr, .int sa, .int ru, .int ck])), (hs, .inl (E 1, 4, .inr (.inr (.inl f)))), (ht, .inl (E 0, 4, .inl t)), (hq, .inl (E 0, 18, .inl w)), (o, .inr (4, [.ref os, .ref ot, .ref ow, .int d, .int mo, .float sp, .int mi, .int cr, .int sa, .int ru, .int ck])), (os, .inl (E 1, 4, .inr (.inr (.inl f)))), (ot, .inl (E 0, 4, .inl t)), (ow, .inl (E 0, 18, .inl w))] H locs := hw
  exact g_vret hQ hc hw hr rfl rfl dX4_copyFrom_107

theorem dX4_clear_0 : decode cX4_clear 0 = .ok (.iconst 0, 1) := by decide +kernel
theorem dX4_clear_1 : decode cX4_clear 1 = .ok (.istore_n 1, 1) := by decide +kernel
theorem dX4_clear_2 : decode cX4_clear 2 = .ok (.iload_n 1, 1) := by decide +kernel
theorem dX4_clear_3 : decode cX4_clear 3 = .ok (.iconst 4, 1) := by decide +kernel
theorem dX4_clear_4 : decode cX4_clear 4 = .ok (.if_icmp .ge 16, 3) := by decide +kernel
theorem dX4_clear_7 : decode cX4_clear 7 = .ok (.aload_n 0, 1) := by decide +kernel
theorem dX4_clear_8 : decode cX4_clear 8 = .ok (.getfield 9, 3) := by decide +kernel
theorem dX4_clear_11 : decode cX4_clear 11 = .ok (.iload_n 1, 1) := by decide +kernel
theorem dX4_clear_12 : decode cX4_clear 12 = .ok (.fconst 0, 1) := by decide +kernel
theorem dX4_clear_13 : decode cX4_clear 13 = .ok (.fastore, 1) := by decide +kernel
theorem dX4_clear_14 : decode cX4_clear 14 = .ok (.iinc 1 1, 3) := by decide +kernel
theorem dX4_clear_17 : decode cX4_clear 17 = .ok (.goto (-15), 3) := by decide +kernel
theorem dX4_clear_20 : decode cX4_clear 20 = .ok (.aload_n 0, 1) := by decide +kernel
theorem dX4_clear_21 : decode cX4_clear 21 = .ok (.iconst 0, 1) := by decide +kernel
theorem dX4_clear_22 : decode cX4_clear 22 = .ok (.putfield 31, 3) := by decide +kernel
theorem dX4_clear_25 : decode cX4_clear 25 = .ok (.aload_n 0, 1) := by decide +kernel
theorem dX4_clear_26 : decode cX4_clear 26 = .ok (.iconst 0, 1) := by decide +kernel
theorem dX4_clear_27 : decode cX4_clear 27 = .ok (.putfield 35, 3) := by decide +kernel
theorem dX4_clear_30 : decode cX4_clear 30 = .ok (.aload_n 0, 1) := by decide +kernel
theorem dX4_clear_31 : decode cX4_clear 31 = .ok (.fconst 0, 1) := by decide +kernel
theorem dX4_clear_32 : decode cX4_clear 32 = .ok (.putfield 38, 3) := by decide +kernel
theorem dX4_clear_35 : decode cX4_clear 35 = .ok (.aload_n 0, 1) := by decide +kernel
theorem dX4_clear_36 : decode cX4_clear 36 = .ok (.iconst 0, 1) := by decide +kernel
theorem dX4_clear_37 : decode cX4_clear 37 = .ok (.putfield 42, 3) := by decide +kernel
theorem dX4_clear_40 : decode cX4_clear 40 = .ok (.aload_n 0, 1) := by decide +kernel
theorem dX4_clear_41 : decode cX4_clear 41 = .ok (.iconst 0, 1) := by decide +kernel
theorem dX4_clear_42 : decode cX4_clear 42 = .ok (.putfield 45, 3) := by decide +kernel
theorem dX4_clear_45 : decode cX4_clear 45 = .ok (.aload_n 0, 1) := by decide +kernel
theorem dX4_clear_46 : decode cX4_clear 46 = .ok (.iconst 0, 1) := by decide +kernel
theorem dX4_clear_47 : decode cX4_clear 47 = .ok (.putfield 48, 3) := by decide +kernel
theorem dX4_clear_50 : decode cX4_clear 50 = .ok (.aload_n 0, 1) := by decide +kernel
theorem dX4_clear_51 : decode cX4_clear 51 = .ok (.iconst 0, 1) := by decide +kernel
theorem dX4_clear_52 : decode cX4_clear 52 = .ok (.putfield 51, 3) := by decide +kernel
theorem dX4_clear_55 : decode cX4_clear 55 = .ok (.aload_n 0, 1) := by decide +kernel
theorem dX4_clear_56 : decode cX4_clear 56 = .ok (.iconst 0, 1) := by decide +kernel
theorem dX4_clear_57 : decode cX4_clear 57 = .ok (.putfield 54, 3) := by decide +kernel
theorem dX4_clear_60 : decode cX4_clear 60 = .ok (.return_, 1) := by decide +kernel
theorem inX4_clear_X4 : ∀ w ∈ u_ws RX4 TX4 11, w ∈ wsX4_clear := fun w h => List.mem_cons_of_mem _ (List.mem_append_right _ h)
set_option maxRecDepth 100000 in
set_option maxHeartbeats 4000000 in
theorem m_X4_clear {l : Launch} {D : va_G} {E : Nat → ClassId} {T : Nat → Nat} (h : Nat) (v1 : Value) (v2 : Value) (hs : Nat) (f : Nat → UInt32) (v3 : Value) (v4 : Value) (v5 : Value) (v6 : Value) (v7 : Value) (v8 : Value) (v9 : Value) (v10 : Value)  : g_M l D E T yX4_clear wsX4_clear 0 0 [.ref h] [(h, .inr (4, [.ref hs, v1, v2, v3, v4, v5, v6, v7, v8, v9, v10])), (hs, .inl (E 1, 4, .inr (.inr (.inl f))))] [(h, .inr (4, [.ref hs, v1, v2, .int 0, .int 0, .float FP.fconst0, .int 0, .int 0, .int 0, .int 0, .int 0])), (hs, .inl (E 1, 4, .inr (.inr (.inl (fun _ => FP.fconst0)))))] none := by
  refine g_M.of (cc := cX4_clear) (nL := 2) (ret := none) (own := RX4) (lv := [(0, .ref h)]) (by decide) rfl rfl (Nat.le_of_ble_eq_true rfl) rfl ?_
  intro p e R s m args below meth c A Q H locs ls hR hQ hc hr hw hl
  have hx := hc.1
  have hb := hc.2.1
  have hts := hc.2.2.2.1
  have hown := hc.2.2.2.2.1
  refine lv_iconst (v := 0) hx hb dX4_clear_0 (by decide) ?_
  refine lv_istore_n (lv' := [(1, .int 0), (0, .ref h)]) hx hb dX4_clear_1 rfl hl (by decide) rfl (fun ls hl => ?_)
  have J2 : ∀ (k9 : Nat) (i : Nat), i + k9 = 4 → ∀ (H : Heap) (locs : List Loc) (ls : Array Slot), g_W D A s [(h, .inr (4, [.ref hs, v1, v2, v3, v4, v5, v6, v7, v8, v9, v10])), (hs, .inl (E 1, 4, .inr (.inr (.inl (clP f i)))))] H locs → lv_has ls 2 [(0, .ref h), (1, .int (nI i))] → W p l e R s m args below meth c H locs 0 0 Q (F0 m 2 ls []) := by
    intro k9
    induction k9 with
    | zero =>
      intro i h9   H locs ls hw hl
      have h9 : i = 4 := h9
      subst h9
      refine lv_iload_n hx hb dX4_clear_2 rfl (lv_at hl 1 rfl) ?_
      refine lv_iconst (v := 4) hx hb dX4_clear_3 (by decide) ?_
      refine lv_icmp_ge (tgt := 20) hx hb dX4_clear_4 (by decide) (fun c_4 => ?_) (fun c_4 => absurd (by first | exact Int32.le_refl _ | decide) c_4)
      have hw := g_reF (q0 := 1) (g := fun _ => FP.fconst0) hw rfl (cl_4 f)
      have hw : g_W D A s [(h, .inr (4, [.ref hs, v1, v2, v3, v4, v5, v6, v7, v8, v9, v10])), (hs, .inl (E 1, 4, .inr (.inr (.inl (fun _ => FP.fconst0)))))] H locs := hw
      refine lv_aload_n hx hb dX4_clear_20 rfl (lv_at hl 0 rfl) ?_
      refine lv_iconst (v := 0) hx hb dX4_clear_21 (by decide) ?_
      refine g_put (TT := TX4) hc hw inX4_clear_X4 tyX4 tyX4_ok nmX4 0 3 2 rfl rfl (by decide) rfl rfl rfl rfl (Nat.le_of_ble_eq_true rfl) dX4_clear_22 (fun H locs hw => ?_)
      have hw : g_W D A s [(h, .inr (4, [.ref hs, v1, v2, .int 0, v4, v5, v6, v7, v8, v9, v10])), (hs, .inl (E 1, 4, .inr (.inr (.inl (fun _ => FP.fconst0)))))] H locs := hw
      refine lv_aload_n hx hb dX4_clear_25 rfl (lv_at hl 0 rfl) ?_
      refine lv_iconst (v := 0) hx hb dX4_clear_26 (by decide) ?_
      refine g_put (TT := TX4) hc hw inX4_clear_X4 tyX4 tyX4_ok nmX4 0 4 3 rfl rfl (by decide) rfl rfl rfl rfl (Nat.le_of_ble_eq_true rfl) dX4_clear_27 (fun H locs hw => ?_)
      have hw : g_W D A s [(h, .inr (4, [.ref hs, v1, v2, .int 0, .int 0, v5, v6, v7, v8, v9, v10])), (hs, .inl (E 1, 4, .inr (.inr (.inl (fun _ => FP.fconst0)))))] H locs := hw
      refine lv_aload_n hx hb dX4_clear_30 rfl (lv_at hl 0 rfl) ?_
      refine lv_fconst0 hx hb dX4_clear_31 ?_
      refine g_put (TT := TX4) hc hw inX4_clear_X4 tyX4 tyX4_ok nmX4 0 5 4 rfl rfl (by decide) rfl rfl rfl rfl (Nat.le_of_ble_eq_true rfl) dX4_clear_32 (fun H locs hw => ?_)
      have hw : g_W D A s [(h, .inr (4, [.ref hs, v1, v2, .int 0, .int 0, .float FP.fconst0, v6, v7, v8, v9, v10])), (hs, .inl (E 1, 4, .inr (.inr (.inl (fun _ => FP.fconst0)))))] H locs := hw
      refine lv_aload_n hx hb dX4_clear_35 rfl (lv_at hl 0 rfl) ?_
      refine lv_iconst (v := 0) hx hb dX4_clear_36 (by decide) ?_
      refine g_put (TT := TX4) hc hw inX4_clear_X4 tyX4 tyX4_ok nmX4 0 6 5 rfl rfl (by decide) rfl rfl rfl rfl (Nat.le_of_ble_eq_true rfl) dX4_clear_37 (fun H locs hw => ?_)
      have hw : g_W D A s [(h, .inr (4, [.ref hs, v1, v2, .int 0, .int 0, .float FP.fconst0, .int 0, v7, v8, v9, v10])), (hs, .inl (E 1, 4, .inr (.inr (.inl (fun _ => FP.fconst0)))))] H locs := hw
      refine lv_aload_n hx hb dX4_clear_40 rfl (lv_at hl 0 rfl) ?_
      refine lv_iconst (v := 0) hx hb dX4_clear_41 (by decide) ?_
      refine g_put (TT := TX4) hc hw inX4_clear_X4 tyX4 tyX4_ok nmX4 0 7 6 rfl rfl (by decide) rfl rfl rfl rfl (Nat.le_of_ble_eq_true rfl) dX4_clear_42 (fun H locs hw => ?_)
      have hw : g_W D A s [(h, .inr (4, [.ref hs, v1, v2, .int 0, .int 0, .float FP.fconst0, .int 0, .int 0, v8, v9, v10])), (hs, .inl (E 1, 4, .inr (.inr (.inl (fun _ => FP.fconst0)))))] H locs := hw
      refine lv_aload_n hx hb dX4_clear_45 rfl (lv_at hl 0 rfl) ?_
      refine lv_iconst (v := 0) hx hb dX4_clear_46 (by decide) ?_
      refine g_put (TT := TX4) hc hw inX4_clear_X4 tyX4 tyX4_ok nmX4 0 8 7 rfl rfl (by decide) rfl rfl rfl rfl (Nat.le_of_ble_eq_true rfl) dX4_clear_47 (fun H locs hw => ?_)
      have hw : g_W D A s [(h, .inr (4, [.ref hs, v1, v2, .int 0, .int 0, .float FP.fconst0, .int 0, .int 0, .int 0, v9, v10])), (hs, .inl (E 1, 4, .inr (.inr (.inl (fun _ => FP.fconst0)))))] H locs := hw
      refine lv_aload_n hx hb dX4_clear_50 rfl (lv_at hl 0 rfl) ?_
      refine lv_iconst (v := 0) hx hb dX4_clear_51 (by decide) ?_
      refine g_put (TT := TX4) hc hw inX4_clear_X4 tyX4 tyX4_ok nmX4 0 9 8 rfl rfl (by decide) rfl rfl rfl rfl (Nat.le_of_ble_eq_true rfl) dX4_clear_52 (fun H locs hw => ?_)
      have hw : g_W D A s [(h, .inr (4, [.ref hs, v1, v2, .int 0, .int 0, .float FP.fconst0, .int 0, .int 0, .int 0, .int 0, v10])), (hs, .inl (E 1, 4, .inr (.inr (.inl (fun _ => FP.fconst0)))))] H locs := hw
      refine lv_aload_n hx hb dX4_clear_55 rfl (lv_at hl 0 rfl) ?_
      refine lv_iconst (v := 0) hx hb dX4_clear_56 (by decide) ?_
      refine g_put (TT := TX4) hc hw inX4_clear_X4 tyX4 tyX4_ok nmX4 0 10 9 rfl rfl (by decide) rfl rfl rfl rfl (Nat.le_of_ble_eq_true rfl) dX4_clear_57 (fun H locs hw => ?_)
      have hw : g_W D A s [(h, .inr (4, [.ref hs, v1, v2, .int 0, .int 0, .float FP.fconst0, .int 0, .int 0, .int 0, .int 0, .int 0])), (hs, .inl (E 1, 4, .inr (.inr (.inl (fun _ => FP.fconst0)))))] H locs := hw
      exact g_vret hQ hc hw hr rfl rfl dX4_clear_60
    | succ k9 ih =>
      intro i h9   H locs ls hw hl
      have h9b : i < 4 := by omega
      refine lv_iload_n hx hb dX4_clear_2 rfl (lv_at hl 1 rfl) ?_
      refine lv_iconst (v := 4) hx hb dX4_clear_3 (by decide) ?_
      refine lv_icmp_ge (tgt := 20) hx hb dX4_clear_4 (by decide) (fun c_4 => absurd c_4 (nI_ge h9b (by decide))) (fun c_4 => ?_)
      refine lv_aload_n hx hb dX4_clear_7 rfl (lv_at hl 0 rfl) ?_
      refine g_get (TT := TX4) hc hw inX4_clear_X4 0 0 1 rfl rfl (by decide) rfl rfl dX4_clear_8 ?_
      refine lv_iload_n hx hb dX4_clear_11 rfl (lv_at hl 1 rfl) ?_
      refine lv_fconst0 hx hb dX4_clear_12 ?_
      refine g_fst hc hw 1 i rfl rfl (by omega) (by decide) dX4_clear_13 (fun H locs hw => ?_)
      have hw : g_W D A s [(h, .inr (4, [.ref hs, v1, v2, v3, v4, v5, v6, v7, v8, v9, v10])), (hs, .inl (E 1, 4, .inr (.inr (.inl (vf_upd (clP f i) i FP.fconst0)))))] H locs := hw
      refine lv_iinc (v := nI (i + 1)) (lv' := [(1, .int (nI (i + 1))), (0, .ref h)]) hx hb dX4_clear_14 hl (k := 1) rfl (n_inc1 rfl) (by decide) rfl (fun ls hl => ?_)
      refine lv_goto (tgt := 2) hx hb dX4_clear_17 (by decide) ?_
      have hw : g_W D A s [(h, .inr (4, [.ref hs, v1, v2, v3, v4, v5, v6, v7, v8, v9, v10])), (hs, .inl (E 1, 4, .inr (.inr (.inl (clP f (i + 1))))))] H locs := by
        have e1 : (vf_upd (clP f i) i FP.fconst0) = (clP f (i + 1)) := by exact cl_step f i
        rw [e1] at hw
        exact hw
      exact ih (i + 1) (by omega)   _ _ _ hw (lv_sub hl [1, 0] rfl)
  have hw : g_W D A s [(h, .inr (4, [.ref hs, v1, v2, v3, v4, v5, v6, v7, v8, v9, v10])), (hs, .inl (E 1, 4, .inr (.inr (.inl (clP f 0)))))] H locs := by
    have e1 : f = (clP f 0) := by exact cl_0 f
    rw [e1] at hw
    exact hw
  exact J2 4 0 (by omega)   _ _ _ hw (lv_sub hl [1, 0] rfl)

theorem dX1_component_0 : decode cX1_component 0 = .ok (.iload_n 1, 1) := by decide +kernel
theorem dX1_component_1 : decode cX1_component 1 = .ok (.ifCond .le 19, 3) := by decide +kernel
theorem dX1_component_4 : decode cX1_component 4 = .ok (.iload_n 2, 1) := by decide +kernel
theorem dX1_component_5 : decode cX1_component 5 = .ok (.ifCond .lt 15, 3) := by decide +kernel
theorem dX1_component_8 : decode cX1_component 8 = .ok (.aload_n 0, 1) := by decide +kernel
theorem dX1_component_9 : decode cX1_component 9 = .ok (.iload_n 2, 1) := by decide +kernel
theorem dX1_component_10 : decode cX1_component 10 = .ok (.iload_n 1, 1) := by decide +kernel
theorem dX1_component_11 : decode cX1_component 11 = .ok (.irem, 1) := by decide +kernel
theorem dX1_component_12 : decode cX1_component 12 = .ok (.iconst 3, 1) := by decide +kernel
theorem dX1_component_13 : decode cX1_component 13 = .ok (.imul, 1) := by decide +kernel
theorem dX1_component_14 : decode cX1_component 14 = .ok (.iload_n 3, 1) := by decide +kernel
theorem dX1_component_15 : decode cX1_component 15 = .ok (.iadd, 1) := by decide +kernel
theorem dX1_component_16 : decode cX1_component 16 = .ok (.iaload, 1) := by decide +kernel
theorem dX1_component_17 : decode cX1_component 17 = .ok (.goto 4, 3) := by decide +kernel
theorem dX1_component_20 : decode cX1_component 20 = .ok (.iconst 0, 1) := by decide +kernel
theorem dX1_component_21 : decode cX1_component 21 = .ok (.ireturn, 1) := by decide +kernel
set_option maxRecDepth 100000 in
set_option maxHeartbeats 4000000 in
theorem m_X1_component {l : Launch} {D : va_G} {E : Nat → ClassId} {T : Nat → Nat} (a : Nat) (w : Nat → Int32) (n : Nat) (c0 : Nat) (k : Nat) (hn : n ≤ 6) (hc0 : c0 < 2 ^ 31) (hk : k < 3) : g_M l D E T yX1_component wsX1_component 0 0 [.ref a, .int (nI n), .int (nI c0), .int (nI k)] [(a, .inl (E 0, 18, .inl w))] [(a, .inl (E 0, 18, .inl w))] (some (.int (cmF w n c0 k))) := by
  refine g_M.of (cc := cX1_component) (nL := 4) (ret := (some .int)) (own := RX1) (lv := [(0, .ref a), (1, .int (nI n)), (2, .int (nI c0)), (3, .int (nI k))]) (by decide) rfl rfl (Nat.le_of_ble_eq_true rfl) rfl ?_
  intro p e R s m args below meth c A Q H locs ls hR hQ hc hr hw hl
  have hx := hc.1
  have hb := hc.2.1
  have hts := hc.2.2.2.1
  have hown := hc.2.2.2.2.1
  refine lv_iload_n hx hb dX1_component_0 rfl (lv_at hl 1 rfl) ?_
  refine lv_if_le (tgt := 20) hx hb dX1_component_1 (by decide) (fun c_1 => ?_) (fun c_1 => ?_)
  · skip
    have hn0 : n = 0 := g_zero9 (by omega) c_1
    refine lv_iconst (v := 0) hx hb dX1_component_20 (by decide) ?_
    exact g_iret hQ hc hw hr (by exact congrArg (fun z => some (Value.int z)) (if_pos hn0)) rfl dX1_component_21
  · skip
    have hn0 : 0 < n := g_pos9 (by omega) c_1
    refine lv_iload_n hx hb dX1_component_4 rfl (lv_at hl 2 rfl) ?_
    refine lv_if_lt (tgt := 20) hx hb dX1_component_5 (by decide) (fun c_5 => absurd c_5 (nI_pos hc0)) (fun c_5 => ?_)
    refine lv_aload_n hx hb dX1_component_8 rfl (lv_at hl 0 rfl) ?_
    refine lv_iload_n hx hb dX1_component_9 rfl (lv_at hl 2 rfl) ?_
    refine lv_iload_n hx hb dX1_component_10 rfl (lv_at hl 1 rfl) ?_
    refine lv_irem hx hb dX1_component_11 (nI_ne0 hn0 (by omega)) ?_
    refine lv_iconst (v := 3) hx hb dX1_component_12 (by decide) ?_
    refine lv_imul hx hb dX1_component_13 ?_
    refine lv_iload_n hx hb dX1_component_14 rfl (lv_at hl 3 rfl) ?_
    refine lv_iadd hx hb dX1_component_15 ?_
    refine g_ild hc hw 0 (((c0 % n) * 3) + k) rfl (n_add (n_mul (n_rem rfl rfl (by omega) (by omega) (by omega)) rfl) rfl) (by have := Nat.mod_lt c0 hn0; omega) (by decide) dX1_component_16 ?_
    refine lv_goto (tgt := 21) hx hb dX1_component_17 (by decide) ?_
    exact g_iret hQ hc hw hr (by exact congrArg (fun z => some (Value.int z)) (if_neg (Nat.ne_of_gt hn0))) rfl dX1_component_21

theorem dX1_limited_0 : decode cX1_limited 0 = .ok (.fload_n 0, 1) := by decide +kernel
theorem dX1_limited_1 : decode cX1_limited 1 = .ok (.iload_n 1, 1) := by decide +kernel
theorem dX1_limited_2 : decode cX1_limited 2 = .ok (.i2f, 1) := by decide +kernel
theorem dX1_limited_3 : decode cX1_limited 3 = .ok (.fcmp .l, 1) := by decide +kernel
theorem dX1_limited_4 : decode cX1_limited 4 = .ok (.ifCond .le 8, 3) := by decide +kernel
theorem dX1_limited_7 : decode cX1_limited 7 = .ok (.iload_n 1, 1) := by decide +kernel
theorem dX1_limited_8 : decode cX1_limited 8 = .ok (.i2f, 1) := by decide +kernel
theorem dX1_limited_9 : decode cX1_limited 9 = .ok (.goto 18, 3) := by decide +kernel
theorem dX1_limited_12 : decode cX1_limited 12 = .ok (.fload_n 0, 1) := by decide +kernel
theorem dX1_limited_13 : decode cX1_limited 13 = .ok (.iload_n 1, 1) := by decide +kernel
theorem dX1_limited_14 : decode cX1_limited 14 = .ok (.ineg, 1) := by decide +kernel
theorem dX1_limited_15 : decode cX1_limited 15 = .ok (.i2f, 1) := by decide +kernel
theorem dX1_limited_16 : decode cX1_limited 16 = .ok (.fcmp .g, 1) := by decide +kernel
theorem dX1_limited_17 : decode cX1_limited 17 = .ok (.ifCond .ge 9, 3) := by decide +kernel
theorem dX1_limited_20 : decode cX1_limited 20 = .ok (.iload_n 1, 1) := by decide +kernel
theorem dX1_limited_21 : decode cX1_limited 21 = .ok (.ineg, 1) := by decide +kernel
theorem dX1_limited_22 : decode cX1_limited 22 = .ok (.i2f, 1) := by decide +kernel
theorem dX1_limited_23 : decode cX1_limited 23 = .ok (.goto 4, 3) := by decide +kernel
theorem dX1_limited_26 : decode cX1_limited 26 = .ok (.fload_n 0, 1) := by decide +kernel
theorem dX1_limited_27 : decode cX1_limited 27 = .ok (.freturn, 1) := by decide +kernel
set_option maxRecDepth 100000 in
set_option maxHeartbeats 4000000 in
theorem m_X1_limited {l : Launch} {D : va_G} {E : Nat → ClassId} {T : Nat → Nat} (v : UInt32) (mx : Int32)  : g_M l D E T yX1_limited wsX1_limited 0 0 [.float v, .int mx] [] [] (some (.float (limF v mx))) := by
  refine g_M.of (cc := cX1_limited) (nL := 2) (ret := (some .float)) (own := RX1) (lv := [(0, .float v), (1, .int mx)]) (by decide) rfl rfl (Nat.le_of_ble_eq_true rfl) rfl ?_
  intro p e R s m args below meth c A Q H locs ls hR hQ hc hr hw hl
  have hx := hc.1
  have hb := hc.2.1
  have hts := hc.2.2.2.1
  have hown := hc.2.2.2.2.1
  refine lv_fload_n hx hb dX1_limited_0 rfl (lv_at hl 0 rfl) ?_
  refine lv_iload_n hx hb dX1_limited_1 rfl (lv_at hl 1 rfl) ?_
  refine lv_i2f hx hb dX1_limited_2 ?_
  refine lv_fcmp hx hb dX1_limited_3 ?_
  refine lv_if_le (tgt := 12) hx hb dX1_limited_4 (by decide) (fun c_4 => ?_) (fun c_4 => ?_)
  · skip
    have k_4 := g_clg c_4
    refine lv_fload_n hx hb dX1_limited_12 rfl (lv_at hl 0 rfl) ?_
    refine lv_iload_n hx hb dX1_limited_13 rfl (lv_at hl 1 rfl) ?_
    refine lv_ineg hx hb dX1_limited_14 ?_
    refine lv_i2f hx hb dX1_limited_15 ?_
    refine lv_fcmp hx hb dX1_limited_16 ?_
    refine lv_if_ge (tgt := 26) hx hb dX1_limited_17 (by decide) (fun c_17 => ?_) (fun c_17 => ?_)
    · skip
      have k_17 := g_cgl c_17
      refine lv_fload_n hx hb dX1_limited_26 rfl (lv_at hl 0 rfl) ?_
      exact g_fret hQ hc hw hr (by exact congrArg (fun z => some (Value.float z)) (by simp [limF, k_4, k_17])) rfl dX1_limited_27
    · skip
      have k_17 := g_cgt c_17
      refine lv_iload_n hx hb dX1_limited_20 rfl (lv_at hl 1 rfl) ?_
      refine lv_ineg hx hb dX1_limited_21 ?_
      refine lv_i2f hx hb dX1_limited_22 ?_
      refine lv_goto (tgt := 27) hx hb dX1_limited_23 (by decide) ?_
      exact g_fret hQ hc hw hr (by exact congrArg (fun z => some (Value.float z)) (by simp [limF, k_4, k_17])) rfl dX1_limited_27
  · skip
    have k_4 := g_clt c_4
    refine lv_iload_n hx hb dX1_limited_7 rfl (lv_at hl 1 rfl) ?_
    refine lv_i2f hx hb dX1_limited_8 ?_
    refine lv_goto (tgt := 27) hx hb dX1_limited_9 (by decide) ?_
    exact g_fret hQ hc hw hr (by exact congrArg (fun z => some (Value.float z)) (by simp [limF, k_4])) rfl dX1_limited_27
end P11
