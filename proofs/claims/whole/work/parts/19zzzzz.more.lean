section P19e
theorem i2c_k {k : Nat} (h : k < 65536) : ((nI k).toUInt32 % 65536).toInt32 = nI k := by
  have := pk_char (nI k)
  have h2 : (nI k).toBitVec.toNat = k := pk_tn (by omega)
  rw [this, h2, Nat.mod_eq_of_lt h]
theorem dX5_wipe_0 : decode cX5_wipe 0 = .ok (.aload_n 0, 1) := by decide +kernel
theorem dX5_wipe_1 : decode cX5_wipe 1 = .ok (.getfield 10, 3) := by decide +kernel
theorem dX5_wipe_4 : decode cX5_wipe 4 = .ok (.getfield 67, 3) := by decide +kernel
theorem dX5_wipe_7 : decode cX5_wipe 7 = .ok (.istore_n 1, 1) := by decide +kernel
theorem dX5_wipe_8 : decode cX5_wipe 8 = .ok (.aload_n 0, 1) := by decide +kernel
theorem dX5_wipe_9 : decode cX5_wipe 9 = .ok (.getfield 10, 3) := by decide +kernel
theorem dX5_wipe_12 : decode cX5_wipe 12 = .ok (.iconst 0, 1) := by decide +kernel
theorem dX5_wipe_13 : decode cX5_wipe 13 = .ok (.putfield 67, 3) := by decide +kernel
theorem dX5_wipe_16 : decode cX5_wipe 16 = .ok (.iload_n 1, 1) := by decide +kernel
theorem dX5_wipe_17 : decode cX5_wipe 17 = .ok (.ireturn, 1) := by decide +kernel
theorem inX5_wipe_X2 : ∀ w ∈ u_ws RX2 TX2 2, w ∈ wsX5_wipe := fun w h => List.mem_cons_of_mem _ (List.mem_append_right _ h)
theorem inX5_wipe_X5 : ∀ w ∈ u_ws RX5 TX5 11, w ∈ wsX5_wipe := fun w h => List.mem_cons_of_mem _ (List.mem_append_left _ (List.mem_append_right _ h))
set_option maxRecDepth 100000 in
set_option maxHeartbeats 4000000 in
theorem m_X5_wipe {l : Launch} {D : va_G} {E : Nat → ClassId} {T : Nat → Nat} (ob : Nat) (sc : Nat) (len : Nat) (z1 : Value) (z2 : Value) (z3 : Value) (z4 : Value) (z5 : Value) (z6 : Value) (z7 : Value) (z8 : Value) (z9 : Value) (z10 : Value) (tv9 : Value)  : g_M l D E T yX5_wipe wsX5_wipe 0 0 [.ref ob] [(ob, .inr (5, [.ref sc, z1, z2, z3, z4, z5, z6, z7, z8, z9, z10])), (sc, .inr (2, [tv9, .int (nI len)]))] [(ob, .inr (5, [.ref sc, z1, z2, z3, z4, z5, z6, z7, z8, z9, z10])), (sc, .inr (2, [tv9, .int 0]))] (some (.int (nI len))) := by
  refine g_M.of (cc := cX5_wipe) (nL := 2) (ret := (some .int)) (own := RX5) (lv := [(0, .ref ob)]) (by decide) rfl rfl (Nat.le_of_ble_eq_true rfl) rfl ?_
  intro p e R s m args below meth c A Q H locs ls hR hQ hc hr hw hl
  have hx := hc.1
  have hb := hc.2.1
  have hts := hc.2.2.2.1
  have hown := hc.2.2.2.2.1
  refine lv_aload_n hx hb dX5_wipe_0 rfl (lv_at hl 0 rfl) ?_
  refine g_get (TT := TX5) hc hw inX5_wipe_X5 0 0 1 rfl rfl (by decide) rfl rfl dX5_wipe_1 ?_
  refine g_getN (TT := TX2) hc hw inX5_wipe_X2 1 1 1 rfl rfl (by decide) rfl rfl dX5_wipe_4 ?_
  refine lv_istore_n (lv' := [(1, .int (nI len)), (0, .ref ob)]) hx hb dX5_wipe_7 rfl hl (by decide) rfl (fun ls hl => ?_)
  refine lv_aload_n hx hb dX5_wipe_8 rfl (lv_at hl 1 rfl) ?_
  refine g_get (TT := TX5) hc hw inX5_wipe_X5 0 0 1 rfl rfl (by decide) rfl rfl dX5_wipe_9 ?_
  refine lv_iconst (v := 0) hx hb dX5_wipe_12 (by decide) ?_
  refine g_putN (TT := TX2) hc hw inX5_wipe_X2 tyX2 tyX2_ok nmX2 1 1 1 rfl rfl (by decide) rfl rfl rfl rfl (Nat.le_of_ble_eq_true rfl) dX5_wipe_13 (fun H locs hw => ?_)
  have hw : g_W D A s [(ob, .inr (5, [.ref sc, z1, z2, z3, z4, z5, z6, z7, z8, z9, z10])), (sc, .inr (2, [tv9, .int 0]))] H locs := hw
  refine lv_iload_n hx hb dX5_wipe_16 rfl (lv_at hl 0 rfl) ?_
  exact g_iret hQ hc hw hr rfl rfl dX5_wipe_17

theorem dX5_unsee_0 : decode cX5_unsee 0 = .ok (.aload_n 0, 1) := by decide +kernel
theorem dX5_unsee_1 : decode cX5_unsee 1 = .ok (.getfield 225, 3) := by decide +kernel
theorem dX5_unsee_4 : decode cX5_unsee 4 = .ok (.istore_n 1, 1) := by decide +kernel
theorem dX5_unsee_5 : decode cX5_unsee 5 = .ok (.aload_n 0, 1) := by decide +kernel
theorem dX5_unsee_6 : decode cX5_unsee 6 = .ok (.iconst 0, 1) := by decide +kernel
theorem dX5_unsee_7 : decode cX5_unsee 7 = .ok (.putfield 225, 3) := by decide +kernel
theorem dX5_unsee_10 : decode cX5_unsee 10 = .ok (.iload_n 1, 1) := by decide +kernel
theorem dX5_unsee_11 : decode cX5_unsee 11 = .ok (.ireturn, 1) := by decide +kernel
theorem inX5_unsee_X5 : ∀ w ∈ u_ws RX5 TX5 11, w ∈ wsX5_unsee := fun w h => List.mem_cons_of_mem _ (List.mem_append_right _ h)
set_option maxRecDepth 100000 in
set_option maxHeartbeats 4000000 in
theorem m_X5_unsee {l : Launch} {D : va_G} {E : Nat → ClassId} {T : Nat → Nat} (ob : Nat) (cn : Nat) (z0 : Value) (z1 : Value) (z2 : Value) (z3 : Value) (z4 : Value) (z5 : Value) (z6 : Value) (z7 : Value) (z8 : Value) (z10 : Value)  : g_M l D E T yX5_unsee wsX5_unsee 0 0 [.ref ob] [(ob, .inr (5, [z0, z1, z2, z3, z4, z5, z6, z7, z8, .int (nI cn), z10]))] [(ob, .inr (5, [z0, z1, z2, z3, z4, z5, z6, z7, z8, .int 0, z10]))] (some (.int (nI cn))) := by
  refine g_M.of (cc := cX5_unsee) (nL := 2) (ret := (some .int)) (own := RX5) (lv := [(0, .ref ob)]) (by decide) rfl rfl (Nat.le_of_ble_eq_true rfl) rfl ?_
  intro p e R s m args below meth c A Q H locs ls hR hQ hc hr hw hl
  have hx := hc.1
  have hb := hc.2.1
  have hts := hc.2.2.2.1
  have hown := hc.2.2.2.2.1
  refine lv_aload_n hx hb dX5_unsee_0 rfl (lv_at hl 0 rfl) ?_
  refine g_get (TT := TX5) hc hw inX5_unsee_X5 0 9 1 rfl rfl (by decide) rfl rfl dX5_unsee_1 ?_
  refine lv_istore_n (lv' := [(1, .int (nI cn)), (0, .ref ob)]) hx hb dX5_unsee_4 rfl hl (by decide) rfl (fun ls hl => ?_)
  refine lv_aload_n hx hb dX5_unsee_5 rfl (lv_at hl 1 rfl) ?_
  refine lv_iconst (v := 0) hx hb dX5_unsee_6 (by decide) ?_
  refine g_put (TT := TX5) hc hw inX5_unsee_X5 tyX5 tyX5_ok nmX5 0 9 1 rfl rfl (by decide) rfl rfl rfl rfl (Nat.le_of_ble_eq_true rfl) dX5_unsee_7 (fun H locs hw => ?_)
  have hw : g_W D A s [(ob, .inr (5, [z0, z1, z2, z3, z4, z5, z6, z7, z8, .int 0, z10]))] H locs := hw
  refine lv_iload_n hx hb dX5_unsee_10 rfl (lv_at hl 0 rfl) ?_
  exact g_iret hQ hc hw hr rfl rfl dX5_unsee_11

theorem dX5_seed_0 : decode cX5_seed 0 = .ok (.aload_n 0, 1) := by decide +kernel
theorem dX5_seed_1 : decode cX5_seed 1 = .ok (.getfield 257, 3) := by decide +kernel
theorem dX5_seed_4 : decode cX5_seed 4 = .ok (.lstore_n 3, 1) := by decide +kernel
theorem dX5_seed_5 : decode cX5_seed 5 = .ok (.aload_n 0, 1) := by decide +kernel
theorem dX5_seed_6 : decode cX5_seed 6 = .ok (.lload_n 1, 1) := by decide +kernel
theorem dX5_seed_7 : decode cX5_seed 7 = .ok (.putfield 257, 3) := by decide +kernel
theorem dX5_seed_10 : decode cX5_seed 10 = .ok (.lload_n 3, 1) := by decide +kernel
theorem dX5_seed_11 : decode cX5_seed 11 = .ok (.lreturn, 1) := by decide +kernel
theorem inX5_seed_X5 : ∀ w ∈ u_ws RX5 TX5 11, w ∈ wsX5_seed := fun w h => List.mem_cons_of_mem _ (List.mem_append_right _ h)
set_option maxRecDepth 100000 in
set_option maxHeartbeats 4000000 in
theorem m_X5_seed {l : Launch} {D : va_G} {E : Nat → ClassId} {T : Nat → Nat} (ob : Nat) (z0 : Value) (z1 : Value) (z2 : Value) (z3 : Value) (z4 : Value) (z5 : Value) (z6 : Value) (z7 : Value) (z8 : Value) (z9 : Value) (sd : Int64) (v : Int64)  : g_M l D E T yX5_seed wsX5_seed 0 0 [.ref ob, .long v] [(ob, .inr (5, [z0, z1, z2, z3, z4, z5, z6, z7, z8, z9, .long sd]))] [(ob, .inr (5, [z0, z1, z2, z3, z4, z5, z6, z7, z8, z9, .long v]))] (some (.long sd)) := by
  refine g_M.of (cc := cX5_seed) (nL := 5) (ret := (some .long)) (own := RX5) (lv := [(0, .ref ob), (1, .long v)]) (by decide) rfl rfl (Nat.le_of_ble_eq_true rfl) rfl ?_
  intro p e R s m args below meth c A Q H locs ls hR hQ hc hr hw hl
  have hx := hc.1
  have hb := hc.2.1
  have hts := hc.2.2.2.1
  have hown := hc.2.2.2.2.1
  refine lv_aload_n hx hb dX5_seed_0 rfl (lv_at hl 0 rfl) ?_
  refine g_get (TT := TX5) hc hw inX5_seed_X5 0 10 1 rfl rfl (by decide) rfl rfl dX5_seed_1 ?_
  refine lv_lstore_n (lv' := [(3, .long sd), (0, .ref ob), (1, .long v)]) hx hb dX5_seed_4 rfl hl (by decide) rfl (fun ls hl => ?_)
  refine lv_aload_n hx hb dX5_seed_5 rfl (lv_at hl 1 rfl) ?_
  refine lv_lload_n hx hb dX5_seed_6 rfl (lv_at hl 2 rfl) ?_
  refine g_put (TT := TX5) hc hw inX5_seed_X5 tyX5 tyX5_ok nmX5 0 10 1 rfl rfl (by decide) rfl rfl rfl rfl (Nat.le_of_ble_eq_true rfl) dX5_seed_7 (fun H locs hw => ?_)
  have hw : g_W D A s [(ob, .inr (5, [z0, z1, z2, z3, z4, z5, z6, z7, z8, z9, .long v]))] H locs := hw
  refine lv_lload_n hx hb dX5_seed_10 rfl (lv_at hl 0 rfl) ?_
  exact g_lret hQ hc hw hr rfl rfl dX5_seed_11

theorem dX5_write_0 : decode cX5_write 0 = .ok (.iload_n 1, 1) := by decide +kernel
theorem dX5_write_1 : decode cX5_write 1 = .ok (.iconst 0, 1) := by decide +kernel
theorem dX5_write_2 : decode cX5_write 2 = .ok (.sipush 255, 3) := by decide +kernel
theorem dX5_write_5 : decode cX5_write 5 = .ok (.invokestatic 59, 3) := by decide +kernel
theorem dX5_write_8 : decode cX5_write 8 = .ok (.ifCond .eq 6, 3) := by decide +kernel
theorem dX5_write_11 : decode cX5_write 11 = .ok (.bipush (-2), 2) := by decide +kernel
theorem dX5_write_13 : decode cX5_write 13 = .ok (.ireturn, 1) := by decide +kernel
set_option maxRecDepth 20000 in
theorem ggX5_write_X5_outside : GoodIn wsX5_write wsX5_outside := goodIn_r _ [5] rfl (by decide +kernel)
set_option maxRecDepth 20000 in
theorem gX5_write_X5_outside : GoodIn wsX5_write (va_wsS RX5 59 yX5_outside wsX5_outside) := goodIn_app (goodIn_of _ (by decide +kernel)) ggX5_write_X5_outside
set_option maxRecDepth 100000 in
set_option maxHeartbeats 4000000 in
theorem m_X5_write_out {l : Launch} {D : va_G} {E : Nat → ClassId} {T : Nat → Nat} (ob : Nat) (z0 : Value) (z1 : Value) (z2 : Value) (z3 : Value) (z4 : Value) (z5 : Value) (z6 : Value) (z7 : Value) (z8 : Value) (z9 : Value) (z10 : Value) (v : Int32) (ho : outB v 0 255 = true) : g_M l D E T yX5_write wsX5_write 1 22 [.ref ob, .int v] [(ob, .inr (5, [z0, z1, z2, z3, z4, z5, z6, z7, z8, z9, z10]))] [(ob, .inr (5, [z0, z1, z2, z3, z4, z5, z6, z7, z8, z9, z10]))] (some (.int (-2))) := by
  refine g_M.of (cc := cX5_write) (nL := 2) (ret := (some .int)) (own := RX5) (lv := [(0, .ref ob), (1, .int v)]) (by decide) rfl rfl (Nat.le_of_ble_eq_true rfl) rfl ?_
  intro p e R s m args below meth c A Q H locs ls hR hQ hc hr hw hl
  have hx := hc.1
  have hb := hc.2.1
  have hts := hc.2.2.2.1
  have hown := hc.2.2.2.2.1
  refine lv_iload_n hx hb dX5_write_0 rfl (lv_at hl 1 rfl) ?_
  refine lv_iconst (v := 0) hx hb dX5_write_1 (by decide) ?_
  refine lv_sipush (v := 255) hx hb dX5_write_2 (by decide) ?_
  refine g_cS (As := [.int v, .int 0, .int 255]) (n := 3) (rest := []) (wc := []) (w1 := []) (bytes := cX5_outside) (maxL := 3) (ret := (some .boolean)) hc hw hl.1 (m_X5_outside (l := l) (D := D) (E := E) (T := T) v 0 255) gX5_write_X5_outside rfl (by decide +kernel) (by rw [hR]; exact ⟨Nat.le_of_ble_eq_true rfl, Nat.le_of_ble_eq_true rfl⟩) [] (by decide) rfl [] rfl rfl rfl rfl (Nat.le_of_ble_eq_true rfl) dX5_write_5 ⟨Nat.zero_le _, Nat.zero_le _⟩ (fun H locs hw => ?_)
  have hw : g_W D A s [(ob, .inr (5, [z0, z1, z2, z3, z4, z5, z6, z7, z8, z9, z10]))] H locs := hw
  refine W.eq (congrArg (fun z => F0 m 8 ls (.int z :: [])) (show (b2i (outB v 0 255) : Int32) = 1 from (congrArg b2i ho))) ?_
  refine lv_if_eq (tgt := 14) hx hb dX5_write_8 (by decide) (fun c_8 => absurd c_8 (by decide)) (fun c_8 => ?_)
  refine lv_bipush (v := (-2)) hx hb dX5_write_11 (by decide) ?_
  exact g_iret hQ hc hw hr rfl rfl dX5_write_13

theorem dX5_write_14 : decode cX5_write 14 = .ok (.aload_n 0, 1) := by decide +kernel
theorem dX5_write_15 : decode cX5_write 15 = .ok (.getfield 10, 3) := by decide +kernel
theorem dX5_write_18 : decode cX5_write 18 = .ok (.iload_n 1, 1) := by decide +kernel
theorem dX5_write_19 : decode cX5_write 19 = .ok (.i2c, 1) := by decide +kernel
theorem dX5_write_20 : decode cX5_write 20 = .ok (.invokevirtual 63, 3) := by decide +kernel
theorem dX5_write_23 : decode cX5_write 23 = .ok (.ifCond .eq 13, 3) := by decide +kernel
theorem dX5_write_26 : decode cX5_write 26 = .ok (.aload_n 0, 1) := by decide +kernel
theorem dX5_write_27 : decode cX5_write 27 = .ok (.getfield 10, 3) := by decide +kernel
theorem dX5_write_30 : decode cX5_write 30 = .ok (.getfield 67, 3) := by decide +kernel
theorem dX5_write_33 : decode cX5_write 33 = .ok (.goto 5, 3) := by decide +kernel
theorem dX5_write_38 : decode cX5_write 38 = .ok (.ireturn, 1) := by decide +kernel
set_option maxRecDepth 20000 in
theorem ggX5_write_X2_append : GoodIn wsX5_write wsX2_append := goodIn_r _ [9, 10, 11, 23, 24] rfl (by decide +kernel)
theorem inX5_write_X2 : ∀ w ∈ u_ws RX2 TX2 2, w ∈ wsX5_write := fun w h => List.mem_cons_of_mem _ (List.mem_append_right _ h)
theorem inX5_write_X5 : ∀ w ∈ u_ws RX5 TX5 11, w ∈ wsX5_write := fun w h => List.mem_cons_of_mem _ (List.mem_append_left _ (List.mem_append_right _ h))
set_option maxRecDepth 100000 in
set_option maxHeartbeats 4000000 in
theorem m_X5_write {l : Launch} {D : va_G} {E : Nat → ClassId} {T : Nat → Nat} (ob : Nat) (sc : Nat) (tx : Nat) (len : Nat) (k : Nat) (z1 : Value) (z2 : Value) (z3 : Value) (z4 : Value) (z5 : Value) (z6 : Value) (z7 : Value) (z8 : Value) (z9 : Value) (z10 : Value) (tt : Nat → Nat) (hk : k ≤ 255) (hl9 : len < 120) : g_M l D E T yX5_write wsX5_write 1 22 [.ref ob, .int (nI k)] [(ob, .inr (5, [.ref sc, z1, z2, z3, z4, z5, z6, z7, z8, z9, z10])), (sc, .inr (2, [.ref tx, .int (nI len)])), (tx, .inl (E 2, 120, .inl (txF tt)))] [(ob, .inr (5, [.ref sc, z1, z2, z3, z4, z5, z6, z7, z8, z9, z10])), (sc, .inr (2, [.ref tx, .int (nI (len + 1))])), (tx, .inl (E 2, 120, .inl (txF (tU tt len k))))] (some (.int (nI (len + 1)))) := by
  refine g_M.of (cc := cX5_write) (nL := 2) (ret := (some .int)) (own := RX5) (lv := [(0, .ref ob), (1, .int (nI k))]) (by decide) rfl rfl (Nat.le_of_ble_eq_true rfl) rfl ?_
  intro p e R s m args below meth c A Q H locs ls hR hQ hc hr hw hl
  have hx := hc.1
  have hb := hc.2.1
  have hts := hc.2.2.2.1
  have hown := hc.2.2.2.2.1
  refine lv_iload_n hx hb dX5_write_0 rfl (lv_at hl 1 rfl) ?_
  refine lv_iconst (v := 0) hx hb dX5_write_1 (by decide) ?_
  refine lv_sipush (v := 255) hx hb dX5_write_2 (by decide) ?_
  refine g_cS (As := [.int (nI k), .int 0, .int 255]) (n := 3) (rest := []) (wc := []) (w1 := []) (bytes := cX5_outside) (maxL := 3) (ret := (some .boolean)) hc hw hl.1 (m_X5_outside (l := l) (D := D) (E := E) (T := T) (nI k) 0 255) gX5_write_X5_outside rfl (by decide +kernel) (by rw [hR]; exact ⟨Nat.le_of_ble_eq_true rfl, Nat.le_of_ble_eq_true rfl⟩) [] (by decide) rfl [] rfl rfl rfl rfl (Nat.le_of_ble_eq_true rfl) dX5_write_5 ⟨Nat.zero_le _, Nat.zero_le _⟩ (fun H locs hw => ?_)
  have hw : g_W D A s [(ob, .inr (5, [.ref sc, z1, z2, z3, z4, z5, z6, z7, z8, z9, z10])), (sc, .inr (2, [.ref tx, .int (nI len)])), (tx, .inl (E 2, 120, .inl (txF tt)))] H locs := hw
  refine W.eq (congrArg (fun z => F0 m 8 ls (.int z :: [])) (show (b2i (outB (nI k) 0 255) : Int32) = 0 from (congrArg b2i (out_nf (n := k) (a := 0) (b := 255) (by omega) hk (by decide))))) ?_
  refine lv_if_eq (tgt := 14) hx hb dX5_write_8 (by decide) (fun c_8 => ?_) (fun c_8 => absurd c_8 (by decide))
  refine lv_aload_n hx hb dX5_write_14 rfl (lv_at hl 0 rfl) ?_
  refine g_get (TT := TX5) hc hw inX5_write_X5 0 0 1 rfl rfl (by decide) rfl rfl dX5_write_15 ?_
  refine lv_iload_n hx hb dX5_write_18 rfl (lv_at hl 1 rfl) ?_
  refine lv_i2c hx hb dX5_write_19 rfl ?_
  refine W.eq (congrArg (fun z => F0 m 20 ls (.int z :: [.ref sc])) (show (((nI k).toUInt32 % 65536).toInt32 : Int32) = nI k from (i2c_k (by omega)))) ?_
  refine g_cVN (As := [.int (nI k)]) (n := 1) (rest := []) (wc := [(sc, .inr (2, [.ref tx, .int (nI len)])), (tx, .inl (E 2, 120, .inl (txF tt)))]) (w1 := [(sc, .inr (2, [.ref tx, .int (nI (len + 1))])), (tx, .inl (E 2, 120, .inl (txF (tU tt len k))))]) (bytes := cX2_append) (maxL := 2) (ret := (some .boolean)) hc hw hl.1 (m_X2_append (l := l) (D := D) (E := E) (T := T) sc tx len k tt (by first | assumption | omega | decide) (by omega)) ggX5_write_X2_append rfl 47 rfl 7 6 8 rfl rfl rfl (by decide +kernel) (by rw [hR]; exact ⟨Nat.le_of_ble_eq_true rfl, Nat.le_of_ble_eq_true rfl⟩) [1, 2] 1 2 rfl rfl (by decide) rfl [sc, tx] rfl rfl rfl rfl (Nat.le_of_ble_eq_true rfl) dX5_write_20 ⟨Nat.zero_le _, Nat.zero_le _⟩ (fun H locs hw => ?_)
  have hw : g_W D A s [(ob, .inr (5, [.ref sc, z1, z2, z3, z4, z5, z6, z7, z8, z9, z10])), (sc, .inr (2, [.ref tx, .int (nI (len + 1))])), (tx, .inl (E 2, 120, .inl (txF (tU tt len k))))] H locs := hw
  refine W.eq (congrArg (fun z => F0 m 23 ls (.int z :: [])) (show (b2i true : Int32) = 1 from rfl)) ?_
  refine lv_if_eq (tgt := 36) hx hb dX5_write_23 (by decide) (fun c_23 => absurd c_23 (by decide)) (fun c_23 => ?_)
  refine lv_aload_n hx hb dX5_write_26 rfl (lv_at hl 0 rfl) ?_
  refine g_get (TT := TX5) hc hw inX5_write_X5 0 0 1 rfl rfl (by decide) rfl rfl dX5_write_27 ?_
  refine g_getN (TT := TX2) hc hw inX5_write_X2 1 1 1 rfl rfl (by decide) rfl rfl dX5_write_30 ?_
  refine lv_goto (tgt := 38) hx hb dX5_write_33 (by decide) ?_
  exact g_iret hQ hc hw hr rfl rfl dX5_write_38

theorem dX5_write_36 : decode cX5_write 36 = .ok (.bipush (-4), 2) := by decide +kernel
set_option maxRecDepth 100000 in
set_option maxHeartbeats 4000000 in
theorem m_X5_write_full {l : Launch} {D : va_G} {E : Nat → ClassId} {T : Nat → Nat} (ob : Nat) (sc : Nat) (tx : Nat) (len : Nat) (k : Nat) (z1 : Value) (z2 : Value) (z3 : Value) (z4 : Value) (z5 : Value) (z6 : Value) (z7 : Value) (z8 : Value) (z9 : Value) (z10 : Value) (tt : Nat → Nat) (hk : k ≤ 255) (hl9 : len = 120) : g_M l D E T yX5_write wsX5_write 1 22 [.ref ob, .int (nI k)] [(ob, .inr (5, [.ref sc, z1, z2, z3, z4, z5, z6, z7, z8, z9, z10])), (sc, .inr (2, [.ref tx, .int (nI len)])), (tx, .inl (E 2, 120, .inl (txF tt)))] [(ob, .inr (5, [.ref sc, z1, z2, z3, z4, z5, z6, z7, z8, z9, z10])), (sc, .inr (2, [.ref tx, .int (nI len)])), (tx, .inl (E 2, 120, .inl (txF tt)))] (some (.int (-4))) := by
  refine g_M.of (cc := cX5_write) (nL := 2) (ret := (some .int)) (own := RX5) (lv := [(0, .ref ob), (1, .int (nI k))]) (by decide) rfl rfl (Nat.le_of_ble_eq_true rfl) rfl ?_
  intro p e R s m args below meth c A Q H locs ls hR hQ hc hr hw hl
  have hx := hc.1
  have hb := hc.2.1
  have hts := hc.2.2.2.1
  have hown := hc.2.2.2.2.1
  refine lv_iload_n hx hb dX5_write_0 rfl (lv_at hl 1 rfl) ?_
  refine lv_iconst (v := 0) hx hb dX5_write_1 (by decide) ?_
  refine lv_sipush (v := 255) hx hb dX5_write_2 (by decide) ?_
  refine g_cS (As := [.int (nI k), .int 0, .int 255]) (n := 3) (rest := []) (wc := []) (w1 := []) (bytes := cX5_outside) (maxL := 3) (ret := (some .boolean)) hc hw hl.1 (m_X5_outside (l := l) (D := D) (E := E) (T := T) (nI k) 0 255) gX5_write_X5_outside rfl (by decide +kernel) (by rw [hR]; exact ⟨Nat.le_of_ble_eq_true rfl, Nat.le_of_ble_eq_true rfl⟩) [] (by decide) rfl [] rfl rfl rfl rfl (Nat.le_of_ble_eq_true rfl) dX5_write_5 ⟨Nat.zero_le _, Nat.zero_le _⟩ (fun H locs hw => ?_)
  have hw : g_W D A s [(ob, .inr (5, [.ref sc, z1, z2, z3, z4, z5, z6, z7, z8, z9, z10])), (sc, .inr (2, [.ref tx, .int (nI len)])), (tx, .inl (E 2, 120, .inl (txF tt)))] H locs := hw
  refine W.eq (congrArg (fun z => F0 m 8 ls (.int z :: [])) (show (b2i (outB (nI k) 0 255) : Int32) = 0 from (congrArg b2i (out_nf (n := k) (a := 0) (b := 255) (by omega) hk (by decide))))) ?_
  refine lv_if_eq (tgt := 14) hx hb dX5_write_8 (by decide) (fun c_8 => ?_) (fun c_8 => absurd c_8 (by decide))
  refine lv_aload_n hx hb dX5_write_14 rfl (lv_at hl 0 rfl) ?_
  refine g_get (TT := TX5) hc hw inX5_write_X5 0 0 1 rfl rfl (by decide) rfl rfl dX5_write_15 ?_
  refine lv_iload_n hx hb dX5_write_18 rfl (lv_at hl 1 rfl) ?_
  refine lv_i2c hx hb dX5_write_19 rfl ?_
  refine W.eq (congrArg (fun z => F0 m 20 ls (.int z :: [.ref sc])) (show (((nI k).toUInt32 % 65536).toInt32 : Int32) = nI k from (i2c_k (by omega)))) ?_
  refine g_cVN (As := [.int (nI k)]) (n := 1) (rest := []) (wc := [(sc, .inr (2, [.ref tx, .int (nI len)])), (tx, .inl (E 2, 120, .inl (txF tt)))]) (w1 := [(sc, .inr (2, [.ref tx, .int (nI len)])), (tx, .inl (E 2, 120, .inl (txF tt)))]) (bytes := cX2_append) (maxL := 2) (ret := (some .boolean)) hc hw hl.1 (m_X2_append_full (l := l) (D := D) (E := E) (T := T) sc tx len k tt (by first | assumption | omega | decide)) ggX5_write_X2_append rfl 47 rfl 7 6 8 rfl rfl rfl (by decide +kernel) (by rw [hR]; exact ⟨Nat.le_of_ble_eq_true rfl, Nat.le_of_ble_eq_true rfl⟩) [1, 2] 1 2 rfl rfl (by decide) rfl [sc, tx] rfl rfl rfl rfl (Nat.le_of_ble_eq_true rfl) dX5_write_20 ⟨Nat.zero_le _, Nat.zero_le _⟩ (fun H locs hw => ?_)
  have hw : g_W D A s [(ob, .inr (5, [.ref sc, z1, z2, z3, z4, z5, z6, z7, z8, z9, z10])), (sc, .inr (2, [.ref tx, .int (nI len)])), (tx, .inl (E 2, 120, .inl (txF tt)))] H locs := hw
  refine W.eq (congrArg (fun z => F0 m 23 ls (.int z :: [])) (show (b2i false : Int32) = 0 from rfl)) ?_
  refine lv_if_eq (tgt := 36) hx hb dX5_write_23 (by decide) (fun c_23 => ?_) (fun c_23 => absurd c_23 (by decide))
  refine lv_bipush (v := (-4)) hx hb dX5_write_36 (by decide) ?_
  exact g_iret hQ hc hw hr rfl rfl dX5_write_38
end P19e
