section P21
theorem dX6_trySpeeds_0 : decode cX6_trySpeeds 0 = .ok (.aload_n 1, 1) := by decide +kernel
theorem dX6_trySpeeds_1 : decode cX6_trySpeeds 1 = .ok (.invokestatic 146, 3) := by decide +kernel
theorem dX6_trySpeeds_4 : decode cX6_trySpeeds 4 = .ok (.istore 4, 2) := by decide +kernel
theorem dX6_trySpeeds_6 : decode cX6_trySpeeds 6 = .ok (.iconst 0, 1) := by decide +kernel
theorem dX6_trySpeeds_7 : decode cX6_trySpeeds 7 = .ok (.istore 5, 2) := by decide +kernel
theorem dX6_trySpeeds_9 : decode cX6_trySpeeds 9 = .ok (.iload 5, 2) := by decide +kernel
theorem dX6_trySpeeds_11 : decode cX6_trySpeeds 11 = .ok (.iconst 4, 1) := by decide +kernel
theorem dX6_trySpeeds_12 : decode cX6_trySpeeds 12 = .ok (.if_icmp .ge 58, 3) := by decide +kernel
theorem dX6_trySpeeds_15 : decode cX6_trySpeeds 15 = .ok (.aload_n 0, 1) := by decide +kernel
theorem dX6_trySpeeds_16 : decode cX6_trySpeeds 16 = .ok (.iload 5, 2) := by decide +kernel
theorem dX6_trySpeeds_18 : decode cX6_trySpeeds 18 = .ok (.iload 4, 2) := by decide +kernel
theorem dX6_trySpeeds_20 : decode cX6_trySpeeds 20 = .ok (.invokevirtual 150, 3) := by decide +kernel
theorem dX6_trySpeeds_23 : decode cX6_trySpeeds 23 = .ok (.i2f, 1) := by decide +kernel
theorem dX6_trySpeeds_24 : decode cX6_trySpeeds 24 = .ok (.ldc 154, 2) := by decide +kernel
theorem dX6_trySpeeds_26 : decode cX6_trySpeeds 26 = .ok (.fdiv, 1) := by decide +kernel
theorem dX6_trySpeeds_27 : decode cX6_trySpeeds 27 = .ok (.fstore 6, 2) := by decide +kernel
theorem dX6_trySpeeds_29 : decode cX6_trySpeeds 29 = .ok (.aload_n 0, 1) := by decide +kernel
theorem dX6_trySpeeds_30 : decode cX6_trySpeeds 30 = .ok (.getfield 72, 3) := by decide +kernel
theorem dX6_trySpeeds_33 : decode cX6_trySpeeds 33 = .ok (.iload 5, 2) := by decide +kernel
theorem dX6_trySpeeds_35 : decode cX6_trySpeeds 35 = .ok (.aload_n 1, 1) := by decide +kernel
theorem dX6_trySpeeds_36 : decode cX6_trySpeeds 36 = .ok (.iconst 0, 1) := by decide +kernel
theorem dX6_trySpeeds_37 : decode cX6_trySpeeds 37 = .ok (.iaload, 1) := by decide +kernel
theorem dX6_trySpeeds_38 : decode cX6_trySpeeds 38 = .ok (.iload 5, 2) := by decide +kernel
theorem dX6_trySpeeds_40 : decode cX6_trySpeeds 40 = .ok (.invokestatic 139, 3) := by decide +kernel
theorem dX6_trySpeeds_43 : decode cX6_trySpeeds 43 = .ok (.ifCond .eq 10, 3) := by decide +kernel
theorem dX6_trySpeeds_46 : decode cX6_trySpeeds 46 = .ok (.aload_n 2, 1) := by decide +kernel
theorem dX6_trySpeeds_47 : decode cX6_trySpeeds 47 = .ok (.iload 5, 2) := by decide +kernel
theorem dX6_trySpeeds_49 : decode cX6_trySpeeds 49 = .ok (.faload, 1) := by decide +kernel
theorem dX6_trySpeeds_50 : decode cX6_trySpeeds 50 = .ok (.goto 13, 3) := by decide +kernel
theorem dX6_trySpeeds_53 : decode cX6_trySpeeds 53 = .ok (.aload_n 2, 1) := by decide +kernel
theorem dX6_trySpeeds_54 : decode cX6_trySpeeds 54 = .ok (.iload 5, 2) := by decide +kernel
theorem dX6_trySpeeds_56 : decode cX6_trySpeeds 56 = .ok (.faload, 1) := by decide +kernel
theorem dX6_trySpeeds_57 : decode cX6_trySpeeds 57 = .ok (.fload 6, 2) := by decide +kernel
theorem dX6_trySpeeds_59 : decode cX6_trySpeeds 59 = .ok (.iload_n 3, 1) := by decide +kernel
theorem dX6_trySpeeds_60 : decode cX6_trySpeeds 60 = .ok (.i2f, 1) := by decide +kernel
theorem dX6_trySpeeds_61 : decode cX6_trySpeeds 61 = .ok (.fadd, 1) := by decide +kernel
theorem dX6_trySpeeds_62 : decode cX6_trySpeeds 62 = .ok (.fadd, 1) := by decide +kernel
theorem dX6_trySpeeds_63 : decode cX6_trySpeeds 63 = .ok (.fastore, 1) := by decide +kernel
theorem dX6_trySpeeds_64 : decode cX6_trySpeeds 64 = .ok (.iinc 5 1, 3) := by decide +kernel
theorem dX6_trySpeeds_67 : decode cX6_trySpeeds 67 = .ok (.goto (-58), 3) := by decide +kernel
theorem dX6_trySpeeds_70 : decode cX6_trySpeeds 70 = .ok (.return_, 1) := by decide +kernel
set_option maxRecDepth 20000 in
theorem ggX6_trySpeeds_X6_theDead : GoodIn wsX6_trySpeeds wsX6_theDead := goodIn_r _ [6, 7, 8, 5, 9] rfl (by decide +kernel)
set_option maxRecDepth 20000 in
theorem gX6_trySpeeds_X6_theDead : GoodIn wsX6_trySpeeds (va_wsS RX6 146 yX6_theDead wsX6_theDead) := goodIn_app (goodIn_of _ (by decide +kernel)) ggX6_trySpeeds_X6_theDead
set_option maxRecDepth 20000 in
theorem ggX6_trySpeeds_X6_turnOf : GoodIn wsX6_trySpeeds wsX6_turnOf := goodIn_r _ [13, 14, 15, 16, 17, 5, 18, 19, 20, 21, 22, 23, 24, 25, 26, 27, 28, 29, 30, 31, 32, 33, 34, 35, 36, 37, 38, 39, 40, 41, 42, 43, 44, 45, 46, 47, 48, 49, 50, 51, 52, 53, 54, 55] rfl (by decide +kernel)
set_option maxRecDepth 20000 in
theorem gX6_trySpeeds_X6_turnOf : GoodIn wsX6_trySpeeds (wsV RX6 150 RX6 yX6_turnOf wsX6_turnOf) := goodIn_app (goodIn_of _ (by decide +kernel)) ggX6_trySpeeds_X6_turnOf
set_option maxRecDepth 20000 in
theorem ggX6_trySpeeds_X6_has : GoodIn wsX6_trySpeeds wsX6_has := goodIn_r _ [9] rfl (by decide +kernel)
set_option maxRecDepth 20000 in
theorem gX6_trySpeeds_X6_has : GoodIn wsX6_trySpeeds (va_wsS RX6 139 yX6_has wsX6_has) := goodIn_app (goodIn_of _ (by decide +kernel)) ggX6_trySpeeds_X6_has
theorem inX6_trySpeeds_X6 : ∀ w ∈ u_ws RX6 TX6 36, w ∈ wsX6_trySpeeds := fun w h => List.mem_cons_of_mem _ (List.mem_append_right _ h)
set_option maxRecDepth 100000 in
set_option maxHeartbeats 4000000 in
theorem m_X6_trySpeeds {l : Launch} {D : va_G} {E : Nat → ClassId} {T : Nat → Nat} (o : Nat) (xa : Nat) (wa : Nat) (ta : Nat) (pp : Nat) (ff : Nat) (nw : Nat) (B : Nat) (u0 : Value) (u1 : Value) (u2 : Value) (u4 : Value) (u5 : Value) (u6 : Value) (u7 : Value) (u8 : Value) (u9 : Value) (u10 : Value) (u11 : Value) (u12 : Value) (u13 : Value) (u14 : Value) (u15 : Value) (u16 : Value) (u17 : Value) (u18 : Value) (u19 : Value) (u20 : Value) (u21 : Value) (u22 : Value) (u23 : Value) (u24 : Value) (u25 : Value) (u26 : Value) (u28 : Value) (u30 : Value) (u31 : Value) (u32 : Value) (u33 : Value) (u34 : Value) (u35 : Value) (x : Nat → Int32) (S : TS) (g : Nat → UInt32) (c0 : Int32) (hok : OkS B S) (hp : pcn (sD S) ≤ 1) : g_M l D E T yX6_trySpeeds wsX6_trySpeeds 2 47 [.ref o, .ref pp, .ref ff, .int c0] [(o, .inr (6, [u0, u1, u2, .ref xa, u4, u5, u6, u7, u8, u9, u10, u11, u12, u13, u14, u15, u16, u17, u18, u19, u20, u21, u22, u23, u24, u25, u26, .ref wa, u28, .ref ta, u30, u31, u32, u33, u34, u35])), (xa, .inl (E 0, 12, .inl (g_tv 0))), (wa, .inl (E 0, 3, .inl (wnF nw x S))), (ta, .inl (E 1, 4, .inr (.inr (.inl g)))), (pp, .inl (E 0, 29, .inl (pgF S))), (ff, .inl (E 1, 5, .inr (.inr (.inl (fl5 S)))))] [(o, .inr (6, [u0, u1, u2, .ref xa, u4, u5, u6, u7, u8, u9, u10, u11, u12, u13, u14, u15, u16, u17, u18, u19, u20, u21, u22, u23, u24, u25, u26, .ref wa, u28, .ref ta, u30, u31, u32, u33, u34, u35])), (xa, .inl (E 0, 12, .inl (g_tv 0))), (wa, .inl (E 0, 3, .inl (wnF nw x S))), (ta, .inl (E 1, 4, .inr (.inr (.inl (amP (sD S) (aiF (sF S) (eS nw x S) c0) (sF S) 4))))), (pp, .inl (E 0, 29, .inl (pgF S))), (ff, .inl (E 1, 5, .inr (.inr (.inl (fl5 S)))))] none := by
  refine g_M.of (cc := cX6_trySpeeds) (nL := 7) (ret := none) (own := RX6) (lv := [(0, .ref o), (1, .ref pp), (2, .ref ff), (3, .int c0)]) (by decide) rfl rfl (Nat.le_of_ble_eq_true rfl) rfl ?_
  intro p e R s m args below meth c A Q H locs ls hR hQ hc hr hw hl
  have hx := hc.1
  have hb := hc.2.1
  have hts := hc.2.2.2.1
  have hown := hc.2.2.2.2.1
  refine lv_aload_n hx hb dX6_trySpeeds_0 rfl (lv_at hl 1 rfl) ?_
  refine g_cS (As := [.ref pp]) (n := 1) (rest := []) (wc := [(pp, .inl (E 0, 29, .inl (pgF S)))]) (w1 := [(pp, .inl (E 0, 29, .inl (pgF S)))]) (bytes := cX6_theDead) (maxL := 3) (ret := (some .int)) hc hw hl.1 (m_X6_theDead (l := l) (D := D) (E := E) (T := T) pp S hok.d) gX6_trySpeeds_X6_theDead rfl (by decide +kernel) (by rw [hR]; exact ⟨Nat.le_of_ble_eq_true rfl, Nat.le_of_ble_eq_true rfl⟩) [4] (by decide) rfl [pp] rfl rfl rfl rfl (Nat.le_of_ble_eq_true rfl) dX6_trySpeeds_1 ⟨Nat.zero_le _, Nat.zero_le _⟩ (fun H locs hw => ?_)
  have hw : g_W D A s [(o, .inr (6, [u0, u1, u2, .ref xa, u4, u5, u6, u7, u8, u9, u10, u11, u12, u13, u14, u15, u16, u17, u18, u19, u20, u21, u22, u23, u24, u25, u26, .ref wa, u28, .ref ta, u30, u31, u32, u33, u34, u35])), (xa, .inl (E 0, 12, .inl (g_tv 0))), (wa, .inl (E 0, 3, .inl (wnF nw x S))), (ta, .inl (E 1, 4, .inr (.inr (.inl g)))), (pp, .inl (E 0, 29, .inl (pgF S))), (ff, .inl (E 1, 5, .inr (.inr (.inl (fl5 S)))))] H locs := hw
  refine lv_istore (lv' := [(4, .int (tdP (sD S) 4)), (0, .ref o), (1, .ref pp), (2, .ref ff), (3, .int c0)]) hx hb dX6_trySpeeds_4 hl (by decide) rfl (fun ls hl => ?_)
  refine lv_iconst (v := 0) hx hb dX6_trySpeeds_6 (by decide) ?_
  refine lv_istore (lv' := [(5, .int 0), (4, .int (tdP (sD S) 4)), (0, .ref o), (1, .ref pp), (2, .ref ff), (3, .int c0)]) hx hb dX6_trySpeeds_7 hl (by decide) rfl (fun ls hl => ?_)
  have J9 : ∀ (k9 : Nat) (i : Nat), i + k9 = 4 → ∀ (H : Heap) (locs : List Loc) (ls : Array Slot), g_W D A s [(o, .inr (6, [u0, u1, u2, .ref xa, u4, u5, u6, u7, u8, u9, u10, u11, u12, u13, u14, u15, u16, u17, u18, u19, u20, u21, u22, u23, u24, u25, u26, .ref wa, u28, .ref ta, u30, u31, u32, u33, u34, u35])), (xa, .inl (E 0, 12, .inl (g_tv 0))), (wa, .inl (E 0, 3, .inl (wnF nw x S))), (ta, .inl (E 1, 4, .inr (.inr (.inl (cpF (amP (sD S) (aiF (sF S) (eS nw x S) c0) (sF S) 4) g i))))), (pp, .inl (E 0, 29, .inl (pgF S))), (ff, .inl (E 1, 5, .inr (.inr (.inl (fl5 S)))))] H locs → lv_has ls 7 [(0, .ref o), (1, .ref pp), (2, .ref ff), (3, .int c0), (4, .int (tdP (sD S) 4)), (5, .int (nI i))] → W p l e R s m args below meth c H locs 0 0 Q (F0 m 9 ls []) := by
    intro k9
    induction k9 with
    | zero =>
      intro i h9   H locs ls hw hl
      have h9 : i = 4 := h9
      subst h9
      refine lv_iload hx hb dX6_trySpeeds_9 (lv_at hl 5 rfl) ?_
      refine lv_iconst (v := 4) hx hb dX6_trySpeeds_11 (by decide) ?_
      refine lv_icmp_ge (tgt := 70) hx hb dX6_trySpeeds_12 (by decide) (fun c_12 => ?_) (fun c_12 => absurd (by first | exact Int32.le_refl _ | decide) c_12)
      have hw := g_reF (q0 := 3) (g := amP (sD S) (aiF (sF S) (eS nw x S) c0) (sF S) 4) hw rfl (cpF_n _ g 4)
      have hw : g_W D A s [(o, .inr (6, [u0, u1, u2, .ref xa, u4, u5, u6, u7, u8, u9, u10, u11, u12, u13, u14, u15, u16, u17, u18, u19, u20, u21, u22, u23, u24, u25, u26, .ref wa, u28, .ref ta, u30, u31, u32, u33, u34, u35])), (xa, .inl (E 0, 12, .inl (g_tv 0))), (wa, .inl (E 0, 3, .inl (wnF nw x S))), (ta, .inl (E 1, 4, .inr (.inr (.inl (amP (sD S) (aiF (sF S) (eS nw x S) c0) (sF S) 4))))), (pp, .inl (E 0, 29, .inl (pgF S))), (ff, .inl (E 1, 5, .inr (.inr (.inl (fl5 S)))))] H locs := hw
      exact g_vret hQ hc hw hr rfl rfl dX6_trySpeeds_70
    | succ k9 ih =>
      intro i h9   H locs ls hw hl
      have h9b : i < 4 := by omega
      refine lv_iload hx hb dX6_trySpeeds_9 (lv_at hl 5 rfl) ?_
      refine lv_iconst (v := 4) hx hb dX6_trySpeeds_11 (by decide) ?_
      refine lv_icmp_ge (tgt := 70) hx hb dX6_trySpeeds_12 (by decide) (fun c_12 => absurd c_12 (nI_ge h9b (by decide))) (fun c_12 => ?_)
      refine lv_aload_n hx hb dX6_trySpeeds_15 rfl (lv_at hl 0 rfl) ?_
      refine lv_iload hx hb dX6_trySpeeds_16 (lv_at hl 5 rfl) ?_
      refine lv_iload hx hb dX6_trySpeeds_18 (lv_at hl 4 rfl) ?_
      refine g_cV (As := [.int (nI i), .int (tdP (sD S) 4)]) (n := 2) (rest := []) (wc := [(o, .inr (6, [u0, u1, u2, .ref xa, u4, u5, u6, u7, u8, u9, u10, u11, u12, u13, u14, u15, u16, u17, u18, u19, u20, u21, u22, u23, u24, u25, u26, .ref wa, u28, .ref ta, u30, u31, u32, u33, u34, u35])), (xa, .inl (E 0, 12, .inl (g_tv 0))), (wa, .inl (E 0, 3, .inl (wnF nw x S)))]) (w1 := [(o, .inr (6, [u0, u1, u2, .ref xa, u4, u5, u6, u7, u8, u9, u10, u11, u12, u13, u14, u15, u16, u17, u18, u19, u20, u21, u22, u23, u24, u25, u26, .ref wa, u28, .ref ta, u30, u31, u32, u33, u34, u35])), (xa, .inl (E 0, 12, .inl (g_tv 0))), (wa, .inl (E 0, 3, .inl (wnF nw x S)))]) (bytes := cX6_turnOf) (maxL := 5) (ret := (some .int)) hc hw hl.1 (m_X6_turnOf (l := l) (D := D) (E := E) (T := T) o xa wa u0 u1 u2 u4 u5 u6 u7 u8 u9 u10 u11 u12 u13 u14 u15 u16 u17 u18 u19 u20 u21 u22 u23 u24 u25 u26 u28 (.ref ta) u30 u31 u32 u33 u34 u35 (tdP (sD S) 4) i (wnF nw x S) (tdP_ok _ 4 (by omega)) (by omega)) gX6_trySpeeds_X6_turnOf rfl (by decide +kernel) (by rw [hR]; exact ⟨Nat.le_of_ble_eq_true rfl, Nat.le_of_ble_eq_true rfl⟩) [0, 1, 2] 0 6 rfl rfl (by decide) rfl [o, xa, wa] rfl rfl rfl rfl (Nat.le_of_ble_eq_true rfl) dX6_trySpeeds_20 ⟨Nat.zero_le _, Nat.zero_le _⟩ (fun H locs hw => ?_)
      have hw : g_W D A s [(o, .inr (6, [u0, u1, u2, .ref xa, u4, u5, u6, u7, u8, u9, u10, u11, u12, u13, u14, u15, u16, u17, u18, u19, u20, u21, u22, u23, u24, u25, u26, .ref wa, u28, .ref ta, u30, u31, u32, u33, u34, u35])), (xa, .inl (E 0, 12, .inl (g_tv 0))), (wa, .inl (E 0, 3, .inl (wnF nw x S))), (ta, .inl (E 1, 4, .inr (.inr (.inl (cpF (amP (sD S) (aiF (sF S) (eS nw x S) c0) (sF S) 4) g i))))), (pp, .inl (E 0, 29, .inl (pgF S))), (ff, .inl (E 1, 5, .inr (.inr (.inl (fl5 S)))))] H locs := hw
      refine lv_i2f hx hb dX6_trySpeeds_23 ?_
      refine lv_ldcf (v := 1082130432) hx hb hown (hts _ (List.mem_of_getElem? (i := 1) rfl)) dX6_trySpeeds_24 ?_
      refine lv_fdiv hx hb dX6_trySpeeds_26 (g_nn (g_mgdiv (K := 159) (L := 129) (g_mgi _) (by decide) (by decide) (by decide) (by decide)) (by decide)) ?_
      refine W.eq (congrArg (fun z => F0 m 27 ls (.float z :: [])) (show (FP.fdiv (FP.i2f (0 + axF (tdP (sD S) 4) i 0 * (wnF nw x S) 0 + axF (tdP (sD S) 4) i 1 * (wnF nw x S) 1 + axF (tdP (sD S) 4) i 2 * (wnF nw x S) 2)) 1082130432 : UInt32) = eS nw x S i from (by rw [tu_eq hok.d hp (by omega)]; rfl))) ?_
      refine lv_fstore (lv' := [(6, .float (eS nw x S i)), (0, .ref o), (1, .ref pp), (2, .ref ff), (3, .int c0), (4, .int (tdP (sD S) 4)), (5, .int (nI i))]) hx hb dX6_trySpeeds_27 hl (by decide) rfl (fun ls hl => ?_)
      refine lv_aload_n hx hb dX6_trySpeeds_29 rfl (lv_at hl 1 rfl) ?_
      refine g_get (TT := TX6) hc hw inX6_trySpeeds_X6 0 29 2 rfl rfl (by decide) rfl rfl dX6_trySpeeds_30 ?_
      refine lv_iload hx hb dX6_trySpeeds_33 (lv_at hl 6 rfl) ?_
      refine lv_aload_n hx hb dX6_trySpeeds_35 rfl (lv_at hl 2 rfl) ?_
      refine lv_iconst (v := 0) hx hb dX6_trySpeeds_36 (by decide) ?_
      refine g_ild hc hw 4 0 rfl rfl (by omega) (by decide) dX6_trySpeeds_37 ?_
      refine W.eq (congrArg (fun z => F0 m 38 ls (.int z :: [.int (nI i), .ref ta])) (show ((pgF S) 0 : Int32) = nI (sD S) from rfl)) ?_
      refine lv_iload hx hb dX6_trySpeeds_38 (lv_at hl 6 rfl) ?_
      refine g_cS (As := [.int (nI (sD S)), .int (nI i)]) (n := 2) (rest := [.int (nI i), .ref ta]) (wc := []) (w1 := []) (bytes := cX6_has) (maxL := 2) (ret := (some .boolean)) hc hw hl.1 (m_X6_has (l := l) (D := D) (E := E) (T := T) (sD S) i hok.d (by omega)) gX6_trySpeeds_X6_has rfl (by decide +kernel) (by rw [hR]; exact ⟨Nat.le_of_ble_eq_true rfl, Nat.le_of_ble_eq_true rfl⟩) [] (by decide) rfl [] rfl rfl rfl rfl (Nat.le_of_ble_eq_true rfl) dX6_trySpeeds_40 ⟨Nat.zero_le _, Nat.zero_le _⟩ (fun H locs hw => ?_)
      have hw : g_W D A s [(o, .inr (6, [u0, u1, u2, .ref xa, u4, u5, u6, u7, u8, u9, u10, u11, u12, u13, u14, u15, u16, u17, u18, u19, u20, u21, u22, u23, u24, u25, u26, .ref wa, u28, .ref ta, u30, u31, u32, u33, u34, u35])), (xa, .inl (E 0, 12, .inl (g_tv 0))), (wa, .inl (E 0, 3, .inl (wnF nw x S))), (ta, .inl (E 1, 4, .inr (.inr (.inl (cpF (amP (sD S) (aiF (sF S) (eS nw x S) c0) (sF S) 4) g i))))), (pp, .inl (E 0, 29, .inl (pgF S))), (ff, .inl (E 1, 5, .inr (.inr (.inl (fl5 S)))))] H locs := hw
      refine lv_if_eq (tgt := 53) hx hb dX6_trySpeeds_43 (by decide) (fun c_43 => ?_) (fun c_43 => ?_)
      · skip
        have k_43 := b2i_eq c_43
        refine lv_aload_n hx hb dX6_trySpeeds_53 rfl (lv_at hl 3 rfl) ?_
        refine lv_iload hx hb dX6_trySpeeds_54 (lv_at hl 6 rfl) ?_
        refine g_fld hc hw 5 i rfl rfl (by omega) (by decide) dX6_trySpeeds_56 ?_
        refine W.eq (congrArg (fun z => F0 m 57 ls (.float z :: [.int (nI i), .ref ta])) (show ((fl5 S) i : UInt32) = sF S i from (fl5_lt _ (by omega)))) ?_
        refine lv_fload hx hb dX6_trySpeeds_57 (lv_at hl 0 rfl) ?_
        refine lv_iload_n hx hb dX6_trySpeeds_59 rfl (lv_at hl 4 rfl) ?_
        refine lv_i2f hx hb dX6_trySpeeds_60 ?_
        refine lv_fadd hx hb dX6_trySpeeds_61 (g_nn (g_mgadd (Ka := 159) (Kb := 160) (K := 160) (es_mg nw x S i) (g_mgi _) (by decide) (by decide) (by decide)) (by decide)) ?_
        refine lv_fadd hx hb dX6_trySpeeds_62 (g_nn (g_mgadd (Ka := 135) (Kb := 162) (K := 162) (g_mgE (fl5_lt _ (by omega)).symm (fl_mg hok i (by omega))) (g_mgadd (Ka := 159) (Kb := 160) (K := 160) (es_mg nw x S i) (g_mgi _) (by decide) (by decide) (by decide)) (by decide) (by decide) (by decide)) (by decide)) ?_
        refine g_fst hc hw 3 i rfl rfl (by omega) (by decide) dX6_trySpeeds_63 (fun H locs hw => ?_)
        have hw : g_W D A s [(o, .inr (6, [u0, u1, u2, .ref xa, u4, u5, u6, u7, u8, u9, u10, u11, u12, u13, u14, u15, u16, u17, u18, u19, u20, u21, u22, u23, u24, u25, u26, .ref wa, u28, .ref ta, u30, u31, u32, u33, u34, u35])), (xa, .inl (E 0, 12, .inl (g_tv 0))), (wa, .inl (E 0, 3, .inl (wnF nw x S))), (ta, .inl (E 1, 4, .inr (.inr (.inl (vf_upd (cpF (amP (sD S) (aiF (sF S) (eS nw x S) c0) (sF S) 4) g i) i (FP.fadd (sF S i) (FP.fadd (eS nw x S i) (FP.i2f c0)))))))), (pp, .inl (E 0, 29, .inl (pgF S))), (ff, .inl (E 1, 5, .inr (.inr (.inl (fl5 S)))))] H locs := hw
        refine lv_iinc (v := nI (i + 1)) (lv' := [(5, .int (nI (i + 1))), (6, .float (eS nw x S i)), (0, .ref o), (1, .ref pp), (2, .ref ff), (3, .int c0), (4, .int (tdP (sD S) 4))]) hx hb dX6_trySpeeds_64 hl (k := 6) rfl (n_inc1 rfl) (by decide) rfl (fun ls hl => ?_)
        refine lv_goto (tgt := 9) hx hb dX6_trySpeeds_67 (by decide) ?_
        have hw : g_W D A s [(o, .inr (6, [u0, u1, u2, .ref xa, u4, u5, u6, u7, u8, u9, u10, u11, u12, u13, u14, u15, u16, u17, u18, u19, u20, u21, u22, u23, u24, u25, u26, .ref wa, u28, .ref ta, u30, u31, u32, u33, u34, u35])), (xa, .inl (E 0, 12, .inl (g_tv 0))), (wa, .inl (E 0, 3, .inl (wnF nw x S))), (ta, .inl (E 1, 4, .inr (.inr (.inl (cpF (amP (sD S) (aiF (sF S) (eS nw x S) c0) (sF S) 4) g (i + 1)))))), (pp, .inl (E 0, 29, .inl (pgF S))), (ff, .inl (E 1, 5, .inr (.inr (.inl (fl5 S)))))] H locs := by
          have e3 : (vf_upd (cpF (amP (sD S) (aiF (sF S) (eS nw x S) c0) (sF S) 4) g i) i (FP.fadd (sF S i) (FP.fadd (eS nw x S i) (FP.i2f c0)))) = (cpF (amP (sD S) (aiF (sF S) (eS nw x S) c0) (sF S) 4) g (i + 1)) := by exact cpF_s g (am_live (aiF (sF S) (eS nw x S) c0) (sF S) k_43 (by omega))
          rw [e3] at hw
          exact hw
        exact ih (i + 1) (by omega)   _ _ _ hw (lv_sub hl [2, 3, 4, 5, 6, 0] rfl)
      · skip
        have k_43 := b2i_ne c_43
        refine lv_aload_n hx hb dX6_trySpeeds_46 rfl (lv_at hl 3 rfl) ?_
        refine lv_iload hx hb dX6_trySpeeds_47 (lv_at hl 6 rfl) ?_
        refine g_fld hc hw 5 i rfl rfl (by omega) (by decide) dX6_trySpeeds_49 ?_
        refine W.eq (congrArg (fun z => F0 m 50 ls (.float z :: [.int (nI i), .ref ta])) (show ((fl5 S) i : UInt32) = sF S i from (fl5_lt _ (by omega)))) ?_
        refine lv_goto (tgt := 63) hx hb dX6_trySpeeds_50 (by decide) ?_
        refine g_fst hc hw 3 i rfl rfl (by omega) (by decide) dX6_trySpeeds_63 (fun H locs hw => ?_)
        have hw : g_W D A s [(o, .inr (6, [u0, u1, u2, .ref xa, u4, u5, u6, u7, u8, u9, u10, u11, u12, u13, u14, u15, u16, u17, u18, u19, u20, u21, u22, u23, u24, u25, u26, .ref wa, u28, .ref ta, u30, u31, u32, u33, u34, u35])), (xa, .inl (E 0, 12, .inl (g_tv 0))), (wa, .inl (E 0, 3, .inl (wnF nw x S))), (ta, .inl (E 1, 4, .inr (.inr (.inl (vf_upd (cpF (amP (sD S) (aiF (sF S) (eS nw x S) c0) (sF S) 4) g i) i (sF S i)))))), (pp, .inl (E 0, 29, .inl (pgF S))), (ff, .inl (E 1, 5, .inr (.inr (.inl (fl5 S)))))] H locs := hw
        refine lv_iinc (v := nI (i + 1)) (lv' := [(5, .int (nI (i + 1))), (6, .float (eS nw x S i)), (0, .ref o), (1, .ref pp), (2, .ref ff), (3, .int c0), (4, .int (tdP (sD S) 4))]) hx hb dX6_trySpeeds_64 hl (k := 6) rfl (n_inc1 rfl) (by decide) rfl (fun ls hl => ?_)
        refine lv_goto (tgt := 9) hx hb dX6_trySpeeds_67 (by decide) ?_
        have hw : g_W D A s [(o, .inr (6, [u0, u1, u2, .ref xa, u4, u5, u6, u7, u8, u9, u10, u11, u12, u13, u14, u15, u16, u17, u18, u19, u20, u21, u22, u23, u24, u25, u26, .ref wa, u28, .ref ta, u30, u31, u32, u33, u34, u35])), (xa, .inl (E 0, 12, .inl (g_tv 0))), (wa, .inl (E 0, 3, .inl (wnF nw x S))), (ta, .inl (E 1, 4, .inr (.inr (.inl (cpF (amP (sD S) (aiF (sF S) (eS nw x S) c0) (sF S) 4) g (i + 1)))))), (pp, .inl (E 0, 29, .inl (pgF S))), (ff, .inl (E 1, 5, .inr (.inr (.inl (fl5 S)))))] H locs := by
          have e3 : (vf_upd (cpF (amP (sD S) (aiF (sF S) (eS nw x S) c0) (sF S) 4) g i) i (sF S i)) = (cpF (amP (sD S) (aiF (sF S) (eS nw x S) c0) (sF S) 4) g (i + 1)) := by exact cpF_s g (am_dead (aiF (sF S) (eS nw x S) c0) (sF S) k_43)
          rw [e3] at hw
          exact hw
        exact ih (i + 1) (by omega)   _ _ _ hw (lv_sub hl [2, 3, 4, 5, 6, 0] rfl)
  have hw : g_W D A s [(o, .inr (6, [u0, u1, u2, .ref xa, u4, u5, u6, u7, u8, u9, u10, u11, u12, u13, u14, u15, u16, u17, u18, u19, u20, u21, u22, u23, u24, u25, u26, .ref wa, u28, .ref ta, u30, u31, u32, u33, u34, u35])), (xa, .inl (E 0, 12, .inl (g_tv 0))), (wa, .inl (E 0, 3, .inl (wnF nw x S))), (ta, .inl (E 1, 4, .inr (.inr (.inl (cpF (amP (sD S) (aiF (sF S) (eS nw x S) c0) (sF S) 4) g 0))))), (pp, .inl (E 0, 29, .inl (pgF S))), (ff, .inl (E 1, 5, .inr (.inr (.inl (fl5 S)))))] H locs := by
    have e3 : g = (cpF (amP (sD S) (aiF (sF S) (eS nw x S) c0) (sF S) 4) g 0) := by exact cpF_0 _ g
    rw [e3] at hw
    exact hw
  exact J9 4 0 (by omega)   _ _ _ hw (lv_sub hl [2, 3, 4, 5, 1, 0] rfl)

theorem dX6_nearOf_0 : decode cX6_nearOf 0 = .ok (.iconst 0, 1) := by decide +kernel
theorem dX6_nearOf_1 : decode cX6_nearOf 1 = .ok (.istore_n 2, 1) := by decide +kernel
theorem dX6_nearOf_2 : decode cX6_nearOf 2 = .ok (.iconst 0, 1) := by decide +kernel
theorem dX6_nearOf_3 : decode cX6_nearOf 3 = .ok (.istore_n 3, 1) := by decide +kernel
theorem dX6_nearOf_4 : decode cX6_nearOf 4 = .ok (.iload_n 3, 1) := by decide +kernel
theorem dX6_nearOf_5 : decode cX6_nearOf 5 = .ok (.iconst 4, 1) := by decide +kernel
theorem dX6_nearOf_6 : decode cX6_nearOf 6 = .ok (.if_icmp .ge 45, 3) := by decide +kernel
theorem dX6_nearOf_9 : decode cX6_nearOf 9 = .ok (.iload_n 2, 1) := by decide +kernel
theorem dX6_nearOf_10 : decode cX6_nearOf 10 = .ok (.aload_n 1, 1) := by decide +kernel
theorem dX6_nearOf_11 : decode cX6_nearOf 11 = .ok (.iconst 0, 1) := by decide +kernel
theorem dX6_nearOf_12 : decode cX6_nearOf 12 = .ok (.iaload, 1) := by decide +kernel
theorem dX6_nearOf_13 : decode cX6_nearOf 13 = .ok (.iload_n 3, 1) := by decide +kernel
theorem dX6_nearOf_14 : decode cX6_nearOf 14 = .ok (.invokestatic 139, 3) := by decide +kernel
theorem dX6_nearOf_17 : decode cX6_nearOf 17 = .ok (.ifCond .ne 25, 3) := by decide +kernel
theorem dX6_nearOf_20 : decode cX6_nearOf 20 = .ok (.aload_n 0, 1) := by decide +kernel
theorem dX6_nearOf_21 : decode cX6_nearOf 21 = .ok (.getfield 72, 3) := by decide +kernel
theorem dX6_nearOf_24 : decode cX6_nearOf 24 = .ok (.iload_n 3, 1) := by decide +kernel
theorem dX6_nearOf_25 : decode cX6_nearOf 25 = .ok (.faload, 1) := by decide +kernel
theorem dX6_nearOf_26 : decode cX6_nearOf 26 = .ok (.invokestatic 155, 3) := by decide +kernel
theorem dX6_nearOf_29 : decode cX6_nearOf 29 = .ok (.aload_n 1, 1) := by decide +kernel
theorem dX6_nearOf_30 : decode cX6_nearOf 30 = .ok (.bipush 8, 2) := by decide +kernel
theorem dX6_nearOf_32 : decode cX6_nearOf 32 = .ok (.iaload, 1) := by decide +kernel
theorem dX6_nearOf_33 : decode cX6_nearOf 33 = .ok (.i2f, 1) := by decide +kernel
theorem dX6_nearOf_34 : decode cX6_nearOf 34 = .ok (.fcmp .g, 1) := by decide +kernel
theorem dX6_nearOf_35 : decode cX6_nearOf 35 = .ok (.ifCond .ge 7, 3) := by decide +kernel
theorem dX6_nearOf_38 : decode cX6_nearOf 38 = .ok (.iconst 1, 1) := by decide +kernel
theorem dX6_nearOf_39 : decode cX6_nearOf 39 = .ok (.goto 4, 3) := by decide +kernel
theorem dX6_nearOf_42 : decode cX6_nearOf 42 = .ok (.iconst 0, 1) := by decide +kernel
theorem dX6_nearOf_43 : decode cX6_nearOf 43 = .ok (.iadd, 1) := by decide +kernel
theorem dX6_nearOf_44 : decode cX6_nearOf 44 = .ok (.istore_n 2, 1) := by decide +kernel
theorem dX6_nearOf_45 : decode cX6_nearOf 45 = .ok (.iinc 3 1, 3) := by decide +kernel
theorem dX6_nearOf_48 : decode cX6_nearOf 48 = .ok (.goto (-44), 3) := by decide +kernel
theorem dX6_nearOf_51 : decode cX6_nearOf 51 = .ok (.iload_n 2, 1) := by decide +kernel
theorem dX6_nearOf_52 : decode cX6_nearOf 52 = .ok (.ireturn, 1) := by decide +kernel
set_option maxRecDepth 20000 in
theorem ggX6_nearOf_X6_has : GoodIn wsX6_nearOf wsX6_has := goodIn_r _ [5] rfl (by decide +kernel)
set_option maxRecDepth 20000 in
theorem gX6_nearOf_X6_has : GoodIn wsX6_nearOf (va_wsS RX6 139 yX6_has wsX6_has) := goodIn_app (goodIn_of _ (by decide +kernel)) ggX6_nearOf_X6_has
set_option maxRecDepth 20000 in
theorem ggX6_nearOf_X6_size : GoodIn wsX6_nearOf wsX6_size := goodIn_r _ [8] rfl (by decide +kernel)
set_option maxRecDepth 20000 in
theorem gX6_nearOf_X6_size : GoodIn wsX6_nearOf (va_wsS RX6 155 yX6_size wsX6_size) := goodIn_app (goodIn_of _ (by decide +kernel)) ggX6_nearOf_X6_size
theorem inX6_nearOf_X6 : ∀ w ∈ u_ws RX6 TX6 36, w ∈ wsX6_nearOf := fun w h => List.mem_cons_of_mem _ (List.mem_append_right _ h)
set_option maxRecDepth 100000 in
set_option maxHeartbeats 4000000 in
theorem m_X6_nearOf {l : Launch} {D : va_G} {E : Nat → ClassId} {T : Nat → Nat} (o : Nat) (ta : Nat) (pp : Nat) (u0 : Value) (u1 : Value) (u2 : Value) (u3 : Value) (u4 : Value) (u5 : Value) (u6 : Value) (u7 : Value) (u8 : Value) (u9 : Value) (u10 : Value) (u11 : Value) (u12 : Value) (u13 : Value) (u14 : Value) (u15 : Value) (u16 : Value) (u17 : Value) (u18 : Value) (u19 : Value) (u20 : Value) (u21 : Value) (u22 : Value) (u23 : Value) (u24 : Value) (u25 : Value) (u26 : Value) (u27 : Value) (u28 : Value) (u30 : Value) (u31 : Value) (u32 : Value) (u33 : Value) (u34 : Value) (u35 : Value) (S : TS) (tr : Nat → UInt32) (hd : sD S < 16) : g_M l D E T yX6_nearOf wsX6_nearOf 1 21 [.ref o, .ref pp] [(o, .inr (6, [u0, u1, u2, u3, u4, u5, u6, u7, u8, u9, u10, u11, u12, u13, u14, u15, u16, u17, u18, u19, u20, u21, u22, u23, u24, u25, u26, u27, u28, .ref ta, u30, u31, u32, u33, u34, u35])), (ta, .inl (E 1, 4, .inr (.inr (.inl tr)))), (pp, .inl (E 0, 29, .inl (pgF S)))] [(o, .inr (6, [u0, u1, u2, u3, u4, u5, u6, u7, u8, u9, u10, u11, u12, u13, u14, u15, u16, u17, u18, u19, u20, u21, u22, u23, u24, u25, u26, u27, u28, .ref ta, u30, u31, u32, u33, u34, u35])), (ta, .inl (E 1, 4, .inr (.inr (.inl tr)))), (pp, .inl (E 0, 29, .inl (pgF S)))] (some (.int (neF (sD S) (FP.i2f (sT S 1)) tr 4))) := by
  refine g_M.of (cc := cX6_nearOf) (nL := 4) (ret := (some .int)) (own := RX6) (lv := [(0, .ref o), (1, .ref pp)]) (by decide) rfl rfl (Nat.le_of_ble_eq_true rfl) rfl ?_
  intro p e R s m args below meth c A Q H locs ls hR hQ hc hr hw hl
  have hx := hc.1
  have hb := hc.2.1
  have hts := hc.2.2.2.1
  have hown := hc.2.2.2.2.1
  refine lv_iconst (v := 0) hx hb dX6_nearOf_0 (by decide) ?_
  refine lv_istore_n (lv' := [(2, .int 0), (0, .ref o), (1, .ref pp)]) hx hb dX6_nearOf_1 rfl hl (by decide) rfl (fun ls hl => ?_)
  refine lv_iconst (v := 0) hx hb dX6_nearOf_2 (by decide) ?_
  refine lv_istore_n (lv' := [(3, .int 0), (2, .int 0), (0, .ref o), (1, .ref pp)]) hx hb dX6_nearOf_3 rfl hl (by decide) rfl (fun ls hl => ?_)
  have J4 : ∀ (k9 : Nat) (i : Nat), i + k9 = 4 → ∀ (H : Heap) (locs : List Loc) (ls : Array Slot), g_W D A s [(o, .inr (6, [u0, u1, u2, u3, u4, u5, u6, u7, u8, u9, u10, u11, u12, u13, u14, u15, u16, u17, u18, u19, u20, u21, u22, u23, u24, u25, u26, u27, u28, .ref ta, u30, u31, u32, u33, u34, u35])), (ta, .inl (E 1, 4, .inr (.inr (.inl tr)))), (pp, .inl (E 0, 29, .inl (pgF S)))] H locs → lv_has ls 4 [(0, .ref o), (1, .ref pp), (2, .int (neF (sD S) (FP.i2f (sT S 1)) tr i)), (3, .int (nI i))] → W p l e R s m args below meth c H locs 0 0 Q (F0 m 4 ls []) := by
    intro k9
    induction k9 with
    | zero =>
      intro i h9   H locs ls hw hl
      have h9 : i = 4 := h9
      subst h9
      refine lv_iload_n hx hb dX6_nearOf_4 rfl (lv_at hl 3 rfl) ?_
      refine lv_iconst (v := 4) hx hb dX6_nearOf_5 (by decide) ?_
      refine lv_icmp_ge (tgt := 51) hx hb dX6_nearOf_6 (by decide) (fun c_6 => ?_) (fun c_6 => absurd (by first | exact Int32.le_refl _ | decide) c_6)
      refine lv_iload_n hx hb dX6_nearOf_51 rfl (lv_at hl 2 rfl) ?_
      exact g_iret hQ hc hw hr rfl rfl dX6_nearOf_52
    | succ k9 ih =>
      intro i h9   H locs ls hw hl
      have h9b : i < 4 := by omega
      refine lv_iload_n hx hb dX6_nearOf_4 rfl (lv_at hl 3 rfl) ?_
      refine lv_iconst (v := 4) hx hb dX6_nearOf_5 (by decide) ?_
      refine lv_icmp_ge (tgt := 51) hx hb dX6_nearOf_6 (by decide) (fun c_6 => absurd c_6 (nI_ge h9b (by decide))) (fun c_6 => ?_)
      refine lv_iload_n hx hb dX6_nearOf_9 rfl (lv_at hl 2 rfl) ?_
      refine lv_aload_n hx hb dX6_nearOf_10 rfl (lv_at hl 1 rfl) ?_
      refine lv_iconst (v := 0) hx hb dX6_nearOf_11 (by decide) ?_
      refine g_ild hc hw 2 0 rfl rfl (by omega) (by decide) dX6_nearOf_12 ?_
      refine W.eq (congrArg (fun z => F0 m 13 ls (.int z :: [.int (neF (sD S) (FP.i2f (sT S 1)) tr i)])) (show ((pgF S) 0 : Int32) = nI (sD S) from rfl)) ?_
      refine lv_iload_n hx hb dX6_nearOf_13 rfl (lv_at hl 3 rfl) ?_
      refine g_cS (As := [.int (nI (sD S)), .int (nI i)]) (n := 2) (rest := [.int (neF (sD S) (FP.i2f (sT S 1)) tr i)]) (wc := []) (w1 := []) (bytes := cX6_has) (maxL := 2) (ret := (some .boolean)) hc hw hl.1 (m_X6_has (l := l) (D := D) (E := E) (T := T) (sD S) i (by first | assumption | omega | decide) (by first | assumption | omega | decide)) gX6_nearOf_X6_has rfl (by decide +kernel) (by rw [hR]; exact ⟨Nat.le_of_ble_eq_true rfl, Nat.le_of_ble_eq_true rfl⟩) [] (by decide) rfl [] rfl rfl rfl rfl (Nat.le_of_ble_eq_true rfl) dX6_nearOf_14 ⟨Nat.zero_le _, Nat.zero_le _⟩ (fun H locs hw => ?_)
      have hw : g_W D A s [(o, .inr (6, [u0, u1, u2, u3, u4, u5, u6, u7, u8, u9, u10, u11, u12, u13, u14, u15, u16, u17, u18, u19, u20, u21, u22, u23, u24, u25, u26, u27, u28, .ref ta, u30, u31, u32, u33, u34, u35])), (ta, .inl (E 1, 4, .inr (.inr (.inl tr)))), (pp, .inl (E 0, 29, .inl (pgF S)))] H locs := hw
      refine lv_if_ne (tgt := 42) hx hb dX6_nearOf_17 (by decide) (fun c_17 => ?_) (fun c_17 => ?_)
      · skip
        have k_17 := b2i_ne c_17
        refine lv_iconst (v := 0) hx hb dX6_nearOf_42 (by decide) ?_
        refine lv_iadd hx hb dX6_nearOf_43 ?_
        refine lv_istore_n (lv' := [(2, .int ((neF (sD S) (FP.i2f (sT S 1)) tr i) + 0)), (0, .ref o), (1, .ref pp), (3, .int (nI i))]) hx hb dX6_nearOf_44 rfl hl (by decide) rfl (fun ls hl => ?_)
        refine lv_iinc (v := nI (i + 1)) (lv' := [(3, .int (nI (i + 1))), (2, .int ((neF (sD S) (FP.i2f (sT S 1)) tr i) + 0)), (0, .ref o), (1, .ref pp)]) hx hb dX6_nearOf_45 hl (k := 3) rfl (n_inc1 rfl) (by decide) rfl (fun ls hl => ?_)
        refine lv_goto (tgt := 4) hx hb dX6_nearOf_48 (by decide) ?_
        have hl := lv_conv hl 1 rfl (v' := (.int (neF (sD S) (FP.i2f (sT S 1)) tr (i + 1)))) (by exact congrArg Value.int (by simp [neF, k_17]))
        have hl : lv_has ls 4 [(3, .int (nI (i + 1))), (2, .int (neF (sD S) (FP.i2f (sT S 1)) tr (i + 1))), (0, .ref o), (1, .ref pp)] := hl
        exact ih (i + 1) (by omega)   _ _ _ hw (lv_sub hl [2, 3, 1, 0] rfl)
      · skip
        have k_17 := b2i_eq c_17
        refine lv_aload_n hx hb dX6_nearOf_20 rfl (lv_at hl 0 rfl) ?_
        refine g_get (TT := TX6) hc hw inX6_nearOf_X6 0 29 1 rfl rfl (by decide) rfl rfl dX6_nearOf_21 ?_
        refine lv_iload_n hx hb dX6_nearOf_24 rfl (lv_at hl 3 rfl) ?_
        refine g_fld hc hw 1 i rfl rfl (by omega) (by decide) dX6_nearOf_25 ?_
        refine g_cS (As := [.float (tr i)]) (n := 1) (rest := [.int (neF (sD S) (FP.i2f (sT S 1)) tr i)]) (wc := []) (w1 := []) (bytes := cX6_size) (maxL := 1) (ret := (some .float)) hc hw hl.1 (m_X6_size (l := l) (D := D) (E := E) (T := T) (tr i)) gX6_nearOf_X6_size rfl (by decide +kernel) (by rw [hR]; exact ⟨Nat.le_of_ble_eq_true rfl, Nat.le_of_ble_eq_true rfl⟩) [] (by decide) rfl [] rfl rfl rfl rfl (Nat.le_of_ble_eq_true rfl) dX6_nearOf_26 ⟨Nat.zero_le _, Nat.zero_le _⟩ (fun H locs hw => ?_)
        have hw : g_W D A s [(o, .inr (6, [u0, u1, u2, u3, u4, u5, u6, u7, u8, u9, u10, u11, u12, u13, u14, u15, u16, u17, u18, u19, u20, u21, u22, u23, u24, u25, u26, u27, u28, .ref ta, u30, u31, u32, u33, u34, u35])), (ta, .inl (E 1, 4, .inr (.inr (.inl tr)))), (pp, .inl (E 0, 29, .inl (pgF S)))] H locs := hw
        refine lv_aload_n hx hb dX6_nearOf_29 rfl (lv_at hl 1 rfl) ?_
        refine lv_bipush (v := 8) hx hb dX6_nearOf_30 (by decide) ?_
        refine g_ild hc hw 2 8 rfl rfl (by omega) (by decide) dX6_nearOf_32 ?_
        refine W.eq (congrArg (fun z => F0 m 33 ls (.int z :: [.float (fsz (tr i)), .int (neF (sD S) (FP.i2f (sT S 1)) tr i)])) (show ((pgF S) 8 : Int32) = sT S 1 from rfl)) ?_
        refine lv_i2f hx hb dX6_nearOf_33 ?_
        refine lv_fcmp hx hb dX6_nearOf_34 ?_
        refine lv_if_ge (tgt := 42) hx hb dX6_nearOf_35 (by decide) (fun c_35 => ?_) (fun c_35 => ?_)
        · skip
          have k_35 := g_cgl c_35
          refine lv_iconst (v := 0) hx hb dX6_nearOf_42 (by decide) ?_
          refine lv_iadd hx hb dX6_nearOf_43 ?_
          refine lv_istore_n (lv' := [(2, .int ((neF (sD S) (FP.i2f (sT S 1)) tr i) + 0)), (0, .ref o), (1, .ref pp), (3, .int (nI i))]) hx hb dX6_nearOf_44 rfl hl (by decide) rfl (fun ls hl => ?_)
          refine lv_iinc (v := nI (i + 1)) (lv' := [(3, .int (nI (i + 1))), (2, .int ((neF (sD S) (FP.i2f (sT S 1)) tr i) + 0)), (0, .ref o), (1, .ref pp)]) hx hb dX6_nearOf_45 hl (k := 3) rfl (n_inc1 rfl) (by decide) rfl (fun ls hl => ?_)
          refine lv_goto (tgt := 4) hx hb dX6_nearOf_48 (by decide) ?_
          have hl := lv_conv hl 1 rfl (v' := (.int (neF (sD S) (FP.i2f (sT S 1)) tr (i + 1)))) (by exact congrArg Value.int (by simp [neF, k_17, k_35]))
          have hl : lv_has ls 4 [(3, .int (nI (i + 1))), (2, .int (neF (sD S) (FP.i2f (sT S 1)) tr (i + 1))), (0, .ref o), (1, .ref pp)] := hl
          exact ih (i + 1) (by omega)   _ _ _ hw (lv_sub hl [2, 3, 1, 0] rfl)
        · skip
          have k_35 := g_cgt c_35
          refine lv_iconst (v := 1) hx hb dX6_nearOf_38 (by decide) ?_
          refine lv_goto (tgt := 43) hx hb dX6_nearOf_39 (by decide) ?_
          refine lv_iadd hx hb dX6_nearOf_43 ?_
          refine lv_istore_n (lv' := [(2, .int ((neF (sD S) (FP.i2f (sT S 1)) tr i) + 1)), (0, .ref o), (1, .ref pp), (3, .int (nI i))]) hx hb dX6_nearOf_44 rfl hl (by decide) rfl (fun ls hl => ?_)
          refine lv_iinc (v := nI (i + 1)) (lv' := [(3, .int (nI (i + 1))), (2, .int ((neF (sD S) (FP.i2f (sT S 1)) tr i) + 1)), (0, .ref o), (1, .ref pp)]) hx hb dX6_nearOf_45 hl (k := 3) rfl (n_inc1 rfl) (by decide) rfl (fun ls hl => ?_)
          refine lv_goto (tgt := 4) hx hb dX6_nearOf_48 (by decide) ?_
          have hl := lv_conv hl 1 rfl (v' := (.int (neF (sD S) (FP.i2f (sT S 1)) tr (i + 1)))) (by exact congrArg Value.int (by simp [neF, k_17, k_35]))
          have hl : lv_has ls 4 [(3, .int (nI (i + 1))), (2, .int (neF (sD S) (FP.i2f (sT S 1)) tr (i + 1))), (0, .ref o), (1, .ref pp)] := hl
          exact ih (i + 1) (by omega)   _ _ _ hw (lv_sub hl [2, 3, 1, 0] rfl)
  exact J4 4 0 (by omega)   _ _ _ hw (lv_sub hl [2, 3, 1, 0] rfl)

theorem dX6_heightOf_0 : decode cX6_heightOf 0 = .ok (.fconst 0, 1) := by decide +kernel
theorem dX6_heightOf_1 : decode cX6_heightOf 1 = .ok (.fstore_n 2, 1) := by decide +kernel
theorem dX6_heightOf_2 : decode cX6_heightOf 2 = .ok (.iconst 0, 1) := by decide +kernel
theorem dX6_heightOf_3 : decode cX6_heightOf 3 = .ok (.istore_n 3, 1) := by decide +kernel
theorem dX6_heightOf_4 : decode cX6_heightOf 4 = .ok (.iload_n 3, 1) := by decide +kernel
theorem dX6_heightOf_5 : decode cX6_heightOf 5 = .ok (.iconst 4, 1) := by decide +kernel
theorem dX6_heightOf_6 : decode cX6_heightOf 6 = .ok (.if_icmp .ge 47, 3) := by decide +kernel
theorem dX6_heightOf_9 : decode cX6_heightOf 9 = .ok (.aload_n 1, 1) := by decide +kernel
theorem dX6_heightOf_10 : decode cX6_heightOf 10 = .ok (.iconst 0, 1) := by decide +kernel
theorem dX6_heightOf_11 : decode cX6_heightOf 11 = .ok (.iaload, 1) := by decide +kernel
theorem dX6_heightOf_12 : decode cX6_heightOf 12 = .ok (.iload_n 3, 1) := by decide +kernel
theorem dX6_heightOf_13 : decode cX6_heightOf 13 = .ok (.invokestatic 139, 3) := by decide +kernel
theorem dX6_heightOf_16 : decode cX6_heightOf 16 = .ok (.ifCond .ne 29, 3) := by decide +kernel
theorem dX6_heightOf_19 : decode cX6_heightOf 19 = .ok (.aload_n 0, 1) := by decide +kernel
theorem dX6_heightOf_20 : decode cX6_heightOf 20 = .ok (.getfield 72, 3) := by decide +kernel
theorem dX6_heightOf_23 : decode cX6_heightOf 23 = .ok (.iload_n 3, 1) := by decide +kernel
theorem dX6_heightOf_24 : decode cX6_heightOf 24 = .ok (.faload, 1) := by decide +kernel
theorem dX6_heightOf_25 : decode cX6_heightOf 25 = .ok (.invokestatic 155, 3) := by decide +kernel
theorem dX6_heightOf_28 : decode cX6_heightOf 28 = .ok (.fload_n 2, 1) := by decide +kernel
theorem dX6_heightOf_29 : decode cX6_heightOf 29 = .ok (.fcmp .l, 1) := by decide +kernel
theorem dX6_heightOf_30 : decode cX6_heightOf 30 = .ok (.ifCond .le 15, 3) := by decide +kernel
theorem dX6_heightOf_33 : decode cX6_heightOf 33 = .ok (.aload_n 0, 1) := by decide +kernel
theorem dX6_heightOf_34 : decode cX6_heightOf 34 = .ok (.getfield 72, 3) := by decide +kernel
theorem dX6_heightOf_37 : decode cX6_heightOf 37 = .ok (.iload_n 3, 1) := by decide +kernel
theorem dX6_heightOf_38 : decode cX6_heightOf 38 = .ok (.faload, 1) := by decide +kernel
theorem dX6_heightOf_39 : decode cX6_heightOf 39 = .ok (.invokestatic 155, 3) := by decide +kernel
theorem dX6_heightOf_42 : decode cX6_heightOf 42 = .ok (.goto 4, 3) := by decide +kernel
theorem dX6_heightOf_45 : decode cX6_heightOf 45 = .ok (.fload_n 2, 1) := by decide +kernel
theorem dX6_heightOf_46 : decode cX6_heightOf 46 = .ok (.fstore_n 2, 1) := by decide +kernel
theorem dX6_heightOf_47 : decode cX6_heightOf 47 = .ok (.iinc 3 1, 3) := by decide +kernel
theorem dX6_heightOf_50 : decode cX6_heightOf 50 = .ok (.goto (-46), 3) := by decide +kernel
theorem dX6_heightOf_53 : decode cX6_heightOf 53 = .ok (.fload_n 2, 1) := by decide +kernel
theorem dX6_heightOf_54 : decode cX6_heightOf 54 = .ok (.freturn, 1) := by decide +kernel
set_option maxRecDepth 20000 in
theorem ggX6_heightOf_X6_has : GoodIn wsX6_heightOf wsX6_has := goodIn_r _ [5] rfl (by decide +kernel)
set_option maxRecDepth 20000 in
theorem gX6_heightOf_X6_has : GoodIn wsX6_heightOf (va_wsS RX6 139 yX6_has wsX6_has) := goodIn_app (goodIn_of _ (by decide +kernel)) ggX6_heightOf_X6_has
set_option maxRecDepth 20000 in
theorem ggX6_heightOf_X6_size : GoodIn wsX6_heightOf wsX6_size := goodIn_r _ [8] rfl (by decide +kernel)
set_option maxRecDepth 20000 in
theorem gX6_heightOf_X6_size : GoodIn wsX6_heightOf (va_wsS RX6 155 yX6_size wsX6_size) := goodIn_app (goodIn_of _ (by decide +kernel)) ggX6_heightOf_X6_size
theorem inX6_heightOf_X6 : ∀ w ∈ u_ws RX6 TX6 36, w ∈ wsX6_heightOf := fun w h => List.mem_cons_of_mem _ (List.mem_append_right _ h)
set_option maxRecDepth 100000 in
set_option maxHeartbeats 4000000 in
theorem m_X6_heightOf {l : Launch} {D : va_G} {E : Nat → ClassId} {T : Nat → Nat} (o : Nat) (ta : Nat) (pp : Nat) (u0 : Value) (u1 : Value) (u2 : Value) (u3 : Value) (u4 : Value) (u5 : Value) (u6 : Value) (u7 : Value) (u8 : Value) (u9 : Value) (u10 : Value) (u11 : Value) (u12 : Value) (u13 : Value) (u14 : Value) (u15 : Value) (u16 : Value) (u17 : Value) (u18 : Value) (u19 : Value) (u20 : Value) (u21 : Value) (u22 : Value) (u23 : Value) (u24 : Value) (u25 : Value) (u26 : Value) (u27 : Value) (u28 : Value) (u30 : Value) (u31 : Value) (u32 : Value) (u33 : Value) (u34 : Value) (u35 : Value) (S : TS) (tr : Nat → UInt32) (hd : sD S < 16) : g_M l D E T yX6_heightOf wsX6_heightOf 1 21 [.ref o, .ref pp] [(o, .inr (6, [u0, u1, u2, u3, u4, u5, u6, u7, u8, u9, u10, u11, u12, u13, u14, u15, u16, u17, u18, u19, u20, u21, u22, u23, u24, u25, u26, u27, u28, .ref ta, u30, u31, u32, u33, u34, u35])), (ta, .inl (E 1, 4, .inr (.inr (.inl tr)))), (pp, .inl (E 0, 29, .inl (pgF S)))] [(o, .inr (6, [u0, u1, u2, u3, u4, u5, u6, u7, u8, u9, u10, u11, u12, u13, u14, u15, u16, u17, u18, u19, u20, u21, u22, u23, u24, u25, u26, u27, u28, .ref ta, u30, u31, u32, u33, u34, u35])), (ta, .inl (E 1, 4, .inr (.inr (.inl tr)))), (pp, .inl (E 0, 29, .inl (pgF S)))] (some (.float (heF (sD S) tr 4))) := by
  refine g_M.of (cc := cX6_heightOf) (nL := 4) (ret := (some .float)) (own := RX6) (lv := [(0, .ref o), (1, .ref pp)]) (by decide) rfl rfl (Nat.le_of_ble_eq_true rfl) rfl ?_
  intro p e R s m args below meth c A Q H locs ls hR hQ hc hr hw hl
  have hx := hc.1
  have hb := hc.2.1
  have hts := hc.2.2.2.1
  have hown := hc.2.2.2.2.1
  refine lv_fconst0 hx hb dX6_heightOf_0 ?_
  refine lv_fstore_n (lv' := [(2, .float FP.fconst0), (0, .ref o), (1, .ref pp)]) hx hb dX6_heightOf_1 rfl hl (by decide) rfl (fun ls hl => ?_)
  refine lv_iconst (v := 0) hx hb dX6_heightOf_2 (by decide) ?_
  refine lv_istore_n (lv' := [(3, .int 0), (2, .float FP.fconst0), (0, .ref o), (1, .ref pp)]) hx hb dX6_heightOf_3 rfl hl (by decide) rfl (fun ls hl => ?_)
  have J4 : ∀ (k9 : Nat) (i : Nat), i + k9 = 4 → ∀ (H : Heap) (locs : List Loc) (ls : Array Slot), g_W D A s [(o, .inr (6, [u0, u1, u2, u3, u4, u5, u6, u7, u8, u9, u10, u11, u12, u13, u14, u15, u16, u17, u18, u19, u20, u21, u22, u23, u24, u25, u26, u27, u28, .ref ta, u30, u31, u32, u33, u34, u35])), (ta, .inl (E 1, 4, .inr (.inr (.inl tr)))), (pp, .inl (E 0, 29, .inl (pgF S)))] H locs → lv_has ls 4 [(0, .ref o), (1, .ref pp), (2, .float (heF (sD S) tr i)), (3, .int (nI i))] → W p l e R s m args below meth c H locs 0 0 Q (F0 m 4 ls []) := by
    intro k9
    induction k9 with
    | zero =>
      intro i h9   H locs ls hw hl
      have h9 : i = 4 := h9
      subst h9
      refine lv_iload_n hx hb dX6_heightOf_4 rfl (lv_at hl 3 rfl) ?_
      refine lv_iconst (v := 4) hx hb dX6_heightOf_5 (by decide) ?_
      refine lv_icmp_ge (tgt := 53) hx hb dX6_heightOf_6 (by decide) (fun c_6 => ?_) (fun c_6 => absurd (by first | exact Int32.le_refl _ | decide) c_6)
      refine lv_fload_n hx hb dX6_heightOf_53 rfl (lv_at hl 2 rfl) ?_
      exact g_fret hQ hc hw hr rfl rfl dX6_heightOf_54
    | succ k9 ih =>
      intro i h9   H locs ls hw hl
      have h9b : i < 4 := by omega
      refine lv_iload_n hx hb dX6_heightOf_4 rfl (lv_at hl 3 rfl) ?_
      refine lv_iconst (v := 4) hx hb dX6_heightOf_5 (by decide) ?_
      refine lv_icmp_ge (tgt := 53) hx hb dX6_heightOf_6 (by decide) (fun c_6 => absurd c_6 (nI_ge h9b (by decide))) (fun c_6 => ?_)
      refine lv_aload_n hx hb dX6_heightOf_9 rfl (lv_at hl 1 rfl) ?_
      refine lv_iconst (v := 0) hx hb dX6_heightOf_10 (by decide) ?_
      refine g_ild hc hw 2 0 rfl rfl (by omega) (by decide) dX6_heightOf_11 ?_
      refine W.eq (congrArg (fun z => F0 m 12 ls (.int z :: [])) (show ((pgF S) 0 : Int32) = nI (sD S) from rfl)) ?_
      refine lv_iload_n hx hb dX6_heightOf_12 rfl (lv_at hl 3 rfl) ?_
      refine g_cS (As := [.int (nI (sD S)), .int (nI i)]) (n := 2) (rest := []) (wc := []) (w1 := []) (bytes := cX6_has) (maxL := 2) (ret := (some .boolean)) hc hw hl.1 (m_X6_has (l := l) (D := D) (E := E) (T := T) (sD S) i (by first | assumption | omega | decide) (by first | assumption | omega | decide)) gX6_heightOf_X6_has rfl (by decide +kernel) (by rw [hR]; exact ⟨Nat.le_of_ble_eq_true rfl, Nat.le_of_ble_eq_true rfl⟩) [] (by decide) rfl [] rfl rfl rfl rfl (Nat.le_of_ble_eq_true rfl) dX6_heightOf_13 ⟨Nat.zero_le _, Nat.zero_le _⟩ (fun H locs hw => ?_)
      have hw : g_W D A s [(o, .inr (6, [u0, u1, u2, u3, u4, u5, u6, u7, u8, u9, u10, u11, u12, u13, u14, u15, u16, u17, u18, u19, u20, u21, u22, u23, u24, u25, u26, u27, u28, .ref ta, u30, u31, u32, u33, u34, u35])), (ta, .inl (E 1, 4, .inr (.inr (.inl tr)))), (pp, .inl (E 0, 29, .inl (pgF S)))] H locs := hw
      refine lv_if_ne (tgt := 45) hx hb dX6_heightOf_16 (by decide) (fun c_16 => ?_) (fun c_16 => ?_)
      · skip
        have k_16 := b2i_ne c_16
        refine lv_fload_n hx hb dX6_heightOf_45 rfl (lv_at hl 2 rfl) ?_
        refine lv_fstore_n (lv' := [(2, .float (heF (sD S) tr i)), (0, .ref o), (1, .ref pp), (3, .int (nI i))]) hx hb dX6_heightOf_46 rfl hl (by decide) rfl (fun ls hl => ?_)
        refine lv_iinc (v := nI (i + 1)) (lv' := [(3, .int (nI (i + 1))), (2, .float (heF (sD S) tr i)), (0, .ref o), (1, .ref pp)]) hx hb dX6_heightOf_47 hl (k := 3) rfl (n_inc1 rfl) (by decide) rfl (fun ls hl => ?_)
        refine lv_goto (tgt := 4) hx hb dX6_heightOf_50 (by decide) ?_
        have hl := lv_conv hl 1 rfl (v' := (.float (heF (sD S) tr (i + 1)))) (by exact congrArg Value.float (by simp [heF, k_16]))
        have hl : lv_has ls 4 [(3, .int (nI (i + 1))), (2, .float (heF (sD S) tr (i + 1))), (0, .ref o), (1, .ref pp)] := hl
        exact ih (i + 1) (by omega)   _ _ _ hw (lv_sub hl [2, 3, 1, 0] rfl)
      · skip
        have k_16 := b2i_eq c_16
        refine lv_aload_n hx hb dX6_heightOf_19 rfl (lv_at hl 0 rfl) ?_
        refine g_get (TT := TX6) hc hw inX6_heightOf_X6 0 29 1 rfl rfl (by decide) rfl rfl dX6_heightOf_20 ?_
        refine lv_iload_n hx hb dX6_heightOf_23 rfl (lv_at hl 3 rfl) ?_
        refine g_fld hc hw 1 i rfl rfl (by omega) (by decide) dX6_heightOf_24 ?_
        refine g_cS (As := [.float (tr i)]) (n := 1) (rest := []) (wc := []) (w1 := []) (bytes := cX6_size) (maxL := 1) (ret := (some .float)) hc hw hl.1 (m_X6_size (l := l) (D := D) (E := E) (T := T) (tr i)) gX6_heightOf_X6_size rfl (by decide +kernel) (by rw [hR]; exact ⟨Nat.le_of_ble_eq_true rfl, Nat.le_of_ble_eq_true rfl⟩) [] (by decide) rfl [] rfl rfl rfl rfl (Nat.le_of_ble_eq_true rfl) dX6_heightOf_25 ⟨Nat.zero_le _, Nat.zero_le _⟩ (fun H locs hw => ?_)
        have hw : g_W D A s [(o, .inr (6, [u0, u1, u2, u3, u4, u5, u6, u7, u8, u9, u10, u11, u12, u13, u14, u15, u16, u17, u18, u19, u20, u21, u22, u23, u24, u25, u26, u27, u28, .ref ta, u30, u31, u32, u33, u34, u35])), (ta, .inl (E 1, 4, .inr (.inr (.inl tr)))), (pp, .inl (E 0, 29, .inl (pgF S)))] H locs := hw
        refine lv_fload_n hx hb dX6_heightOf_28 rfl (lv_at hl 2 rfl) ?_
        refine lv_fcmp hx hb dX6_heightOf_29 ?_
        refine lv_if_le (tgt := 45) hx hb dX6_heightOf_30 (by decide) (fun c_30 => ?_) (fun c_30 => ?_)
        · skip
          have k_30 := g_clg c_30
          refine lv_fload_n hx hb dX6_heightOf_45 rfl (lv_at hl 2 rfl) ?_
          refine lv_fstore_n (lv' := [(2, .float (heF (sD S) tr i)), (0, .ref o), (1, .ref pp), (3, .int (nI i))]) hx hb dX6_heightOf_46 rfl hl (by decide) rfl (fun ls hl => ?_)
          refine lv_iinc (v := nI (i + 1)) (lv' := [(3, .int (nI (i + 1))), (2, .float (heF (sD S) tr i)), (0, .ref o), (1, .ref pp)]) hx hb dX6_heightOf_47 hl (k := 3) rfl (n_inc1 rfl) (by decide) rfl (fun ls hl => ?_)
          refine lv_goto (tgt := 4) hx hb dX6_heightOf_50 (by decide) ?_
          have hl := lv_conv hl 1 rfl (v' := (.float (heF (sD S) tr (i + 1)))) (by exact congrArg Value.float (by simp [heF, k_16, k_30]))
          have hl : lv_has ls 4 [(3, .int (nI (i + 1))), (2, .float (heF (sD S) tr (i + 1))), (0, .ref o), (1, .ref pp)] := hl
          exact ih (i + 1) (by omega)   _ _ _ hw (lv_sub hl [2, 3, 1, 0] rfl)
        · skip
          have k_30 := g_clt c_30
          refine lv_aload_n hx hb dX6_heightOf_33 rfl (lv_at hl 0 rfl) ?_
          refine g_get (TT := TX6) hc hw inX6_heightOf_X6 0 29 1 rfl rfl (by decide) rfl rfl dX6_heightOf_34 ?_
          refine lv_iload_n hx hb dX6_heightOf_37 rfl (lv_at hl 3 rfl) ?_
          refine g_fld hc hw 1 i rfl rfl (by omega) (by decide) dX6_heightOf_38 ?_
          refine g_cS (As := [.float (tr i)]) (n := 1) (rest := []) (wc := []) (w1 := []) (bytes := cX6_size) (maxL := 1) (ret := (some .float)) hc hw hl.1 (m_X6_size (l := l) (D := D) (E := E) (T := T) (tr i)) gX6_heightOf_X6_size rfl (by decide +kernel) (by rw [hR]; exact ⟨Nat.le_of_ble_eq_true rfl, Nat.le_of_ble_eq_true rfl⟩) [] (by decide) rfl [] rfl rfl rfl rfl (Nat.le_of_ble_eq_true rfl) dX6_heightOf_39 ⟨Nat.zero_le _, Nat.zero_le _⟩ (fun H locs hw => ?_)
          have hw : g_W D A s [(o, .inr (6, [u0, u1, u2, u3, u4, u5, u6, u7, u8, u9, u10, u11, u12, u13, u14, u15, u16, u17, u18, u19, u20, u21, u22, u23, u24, u25, u26, u27, u28, .ref ta, u30, u31, u32, u33, u34, u35])), (ta, .inl (E 1, 4, .inr (.inr (.inl tr)))), (pp, .inl (E 0, 29, .inl (pgF S)))] H locs := hw
          refine lv_goto (tgt := 46) hx hb dX6_heightOf_42 (by decide) ?_
          refine lv_fstore_n (lv' := [(2, .float (fsz (tr i))), (0, .ref o), (1, .ref pp), (3, .int (nI i))]) hx hb dX6_heightOf_46 rfl hl (by decide) rfl (fun ls hl => ?_)
          refine lv_iinc (v := nI (i + 1)) (lv' := [(3, .int (nI (i + 1))), (2, .float (fsz (tr i))), (0, .ref o), (1, .ref pp)]) hx hb dX6_heightOf_47 hl (k := 3) rfl (n_inc1 rfl) (by decide) rfl (fun ls hl => ?_)
          refine lv_goto (tgt := 4) hx hb dX6_heightOf_50 (by decide) ?_
          have hl := lv_conv hl 1 rfl (v' := (.float (heF (sD S) tr (i + 1)))) (by exact congrArg Value.float (by simp [heF, k_16, k_30]))
          have hl : lv_has ls 4 [(3, .int (nI (i + 1))), (2, .float (heF (sD S) tr (i + 1))), (0, .ref o), (1, .ref pp)] := hl
          exact ih (i + 1) (by omega)   _ _ _ hw (lv_sub hl [2, 3, 1, 0] rfl)
  exact J4 4 0 (by omega)   _ _ _ hw (lv_sub hl [2, 3, 1, 0] rfl)

theorem dX6_layPlan_0 : decode cX6_layPlan 0 = .ok (.aload_n 1, 1) := by decide +kernel
theorem dX6_layPlan_1 : decode cX6_layPlan 1 = .ok (.iconst 0, 1) := by decide +kernel
theorem dX6_layPlan_2 : decode cX6_layPlan 2 = .ok (.iaload, 1) := by decide +kernel
theorem dX6_layPlan_3 : decode cX6_layPlan 3 = .ok (.ifCond .ne 8, 3) := by decide +kernel
theorem dX6_layPlan_6 : decode cX6_layPlan 6 = .ok (.bipush 9, 2) := by decide +kernel
theorem dX6_layPlan_8 : decode cX6_layPlan 8 = .ok (.goto 4, 3) := by decide +kernel
theorem dX6_layPlan_11 : decode cX6_layPlan 11 = .ok (.iconst 1, 1) := by decide +kernel
theorem dX6_layPlan_12 : decode cX6_layPlan 12 = .ok (.istore_n 3, 1) := by decide +kernel
theorem dX6_layPlan_13 : decode cX6_layPlan 13 = .ok (.iconst 0, 1) := by decide +kernel
theorem dX6_layPlan_14 : decode cX6_layPlan 14 = .ok (.istore 4, 2) := by decide +kernel
theorem dX6_layPlan_16 : decode cX6_layPlan 16 = .ok (.iload 4, 2) := by decide +kernel
theorem dX6_layPlan_18 : decode cX6_layPlan 18 = .ok (.iload_n 3, 1) := by decide +kernel
theorem dX6_layPlan_19 : decode cX6_layPlan 19 = .ok (.if_icmp .ge 121, 3) := by decide +kernel
theorem dX6_layPlan_22 : decode cX6_layPlan 22 = .ok (.aload_n 0, 1) := by decide +kernel
theorem dX6_layPlan_23 : decode cX6_layPlan 23 = .ok (.aload_n 1, 1) := by decide +kernel
theorem dX6_layPlan_24 : decode cX6_layPlan 24 = .ok (.aload_n 2, 1) := by decide +kernel
theorem dX6_layPlan_25 : decode cX6_layPlan 25 = .ok (.aload_n 0, 1) := by decide +kernel
theorem dX6_layPlan_26 : decode cX6_layPlan 26 = .ok (.getfield 81, 3) := by decide +kernel
theorem dX6_layPlan_29 : decode cX6_layPlan 29 = .ok (.iload 4, 2) := by decide +kernel
theorem dX6_layPlan_31 : decode cX6_layPlan 31 = .ok (.iaload, 1) := by decide +kernel
theorem dX6_layPlan_32 : decode cX6_layPlan 32 = .ok (.invokevirtual 159, 3) := by decide +kernel
theorem dX6_layPlan_35 : decode cX6_layPlan 35 = .ok (.aload_n 0, 1) := by decide +kernel
theorem dX6_layPlan_36 : decode cX6_layPlan 36 = .ok (.aload_n 1, 1) := by decide +kernel
theorem dX6_layPlan_37 : decode cX6_layPlan 37 = .ok (.invokevirtual 163, 3) := by decide +kernel
theorem dX6_layPlan_40 : decode cX6_layPlan 40 = .ok (.istore 5, 2) := by decide +kernel
theorem dX6_layPlan_42 : decode cX6_layPlan 42 = .ok (.aload_n 0, 1) := by decide +kernel
theorem dX6_layPlan_43 : decode cX6_layPlan 43 = .ok (.aload_n 1, 1) := by decide +kernel
theorem dX6_layPlan_44 : decode cX6_layPlan 44 = .ok (.invokevirtual 166, 3) := by decide +kernel
theorem dX6_layPlan_47 : decode cX6_layPlan 47 = .ok (.fstore 6, 2) := by decide +kernel
theorem dX6_layPlan_49 : decode cX6_layPlan 49 = .ok (.iload 4, 2) := by decide +kernel
theorem dX6_layPlan_51 : decode cX6_layPlan 51 = .ok (.ifCond .eq 31, 3) := by decide +kernel
theorem dX6_layPlan_54 : decode cX6_layPlan 54 = .ok (.iload 5, 2) := by decide +kernel
theorem dX6_layPlan_56 : decode cX6_layPlan 56 = .ok (.aload_n 0, 1) := by decide +kernel
theorem dX6_layPlan_57 : decode cX6_layPlan 57 = .ok (.getfield 170, 3) := by decide +kernel
theorem dX6_layPlan_60 : decode cX6_layPlan 60 = .ok (.if_icmp .lt 22, 3) := by decide +kernel
theorem dX6_layPlan_63 : decode cX6_layPlan 63 = .ok (.iload 5, 2) := by decide +kernel
theorem dX6_layPlan_65 : decode cX6_layPlan 65 = .ok (.aload_n 0, 1) := by decide +kernel
theorem dX6_layPlan_66 : decode cX6_layPlan 66 = .ok (.getfield 170, 3) := by decide +kernel
theorem dX6_layPlan_69 : decode cX6_layPlan 69 = .ok (.if_icmp .ne 65, 3) := by decide +kernel
theorem dX6_layPlan_72 : decode cX6_layPlan 72 = .ok (.fload 6, 2) := by decide +kernel
theorem dX6_layPlan_74 : decode cX6_layPlan 74 = .ok (.aload_n 0, 1) := by decide +kernel
theorem dX6_layPlan_75 : decode cX6_layPlan 75 = .ok (.getfield 173, 3) := by decide +kernel
theorem dX6_layPlan_78 : decode cX6_layPlan 78 = .ok (.fcmp .g, 1) := by decide +kernel
theorem dX6_layPlan_79 : decode cX6_layPlan 79 = .ok (.ifCond .ge 55, 3) := by decide +kernel
theorem dX6_layPlan_82 : decode cX6_layPlan 82 = .ok (.aload_n 0, 1) := by decide +kernel
theorem dX6_layPlan_83 : decode cX6_layPlan 83 = .ok (.aload_n 0, 1) := by decide +kernel
theorem dX6_layPlan_84 : decode cX6_layPlan 84 = .ok (.getfield 81, 3) := by decide +kernel
theorem dX6_layPlan_87 : decode cX6_layPlan 87 = .ok (.iload 4, 2) := by decide +kernel
theorem dX6_layPlan_89 : decode cX6_layPlan 89 = .ok (.iaload, 1) := by decide +kernel
theorem dX6_layPlan_90 : decode cX6_layPlan 90 = .ok (.putfield 177, 3) := by decide +kernel
theorem dX6_layPlan_93 : decode cX6_layPlan 93 = .ok (.aload_n 0, 1) := by decide +kernel
theorem dX6_layPlan_94 : decode cX6_layPlan 94 = .ok (.iload 5, 2) := by decide +kernel
theorem dX6_layPlan_96 : decode cX6_layPlan 96 = .ok (.putfield 170, 3) := by decide +kernel
theorem dX6_layPlan_99 : decode cX6_layPlan 99 = .ok (.aload_n 0, 1) := by decide +kernel
theorem dX6_layPlan_100 : decode cX6_layPlan 100 = .ok (.fload 6, 2) := by decide +kernel
theorem dX6_layPlan_102 : decode cX6_layPlan 102 = .ok (.putfield 173, 3) := by decide +kernel
theorem dX6_layPlan_105 : decode cX6_layPlan 105 = .ok (.iconst 0, 1) := by decide +kernel
theorem dX6_layPlan_106 : decode cX6_layPlan 106 = .ok (.istore 7, 2) := by decide +kernel
theorem dX6_layPlan_108 : decode cX6_layPlan 108 = .ok (.iload 7, 2) := by decide +kernel
theorem dX6_layPlan_110 : decode cX6_layPlan 110 = .ok (.iconst 4, 1) := by decide +kernel
theorem dX6_layPlan_111 : decode cX6_layPlan 111 = .ok (.if_icmp .ge 23, 3) := by decide +kernel
theorem dX6_layPlan_114 : decode cX6_layPlan 114 = .ok (.aload_n 0, 1) := by decide +kernel
theorem dX6_layPlan_115 : decode cX6_layPlan 115 = .ok (.getfield 69, 3) := by decide +kernel
theorem dX6_layPlan_118 : decode cX6_layPlan 118 = .ok (.iload 7, 2) := by decide +kernel
theorem dX6_layPlan_120 : decode cX6_layPlan 120 = .ok (.aload_n 0, 1) := by decide +kernel
theorem dX6_layPlan_121 : decode cX6_layPlan 121 = .ok (.getfield 72, 3) := by decide +kernel
theorem dX6_layPlan_124 : decode cX6_layPlan 124 = .ok (.iload 7, 2) := by decide +kernel
theorem dX6_layPlan_126 : decode cX6_layPlan 126 = .ok (.faload, 1) := by decide +kernel
theorem dX6_layPlan_127 : decode cX6_layPlan 127 = .ok (.fastore, 1) := by decide +kernel
theorem dX6_layPlan_128 : decode cX6_layPlan 128 = .ok (.iinc 7 1, 3) := by decide +kernel
theorem dX6_layPlan_131 : decode cX6_layPlan 131 = .ok (.goto (-23), 3) := by decide +kernel
theorem dX6_layPlan_134 : decode cX6_layPlan 134 = .ok (.iinc 4 1, 3) := by decide +kernel
theorem dX6_layPlan_137 : decode cX6_layPlan 137 = .ok (.goto (-121), 3) := by decide +kernel
theorem dX6_layPlan_140 : decode cX6_layPlan 140 = .ok (.return_, 1) := by decide +kernel
set_option maxRecDepth 20000 in
theorem ggX6_layPlan_X6_trySpeeds : GoodIn wsX6_layPlan wsX6_trySpeeds := goodIn_r _ [11, 12, 6, 13, 14, 10, 15, 16, 17, 18, 19, 20, 21, 22, 23, 24, 25, 26, 27, 28, 40, 41, 42, 43, 44, 45, 46, 47, 48, 49, 50, 51, 52, 53, 54, 55, 56, 57, 58, 59, 60, 61, 62, 63, 64, 65, 66, 67, 68, 69, 70, 71, 72, 73, 74, 75] rfl (by decide +kernel)
set_option maxRecDepth 20000 in
theorem gX6_layPlan_X6_trySpeeds : GoodIn wsX6_layPlan (wsV RX6 159 RX6 yX6_trySpeeds wsX6_trySpeeds) := goodIn_app (goodIn_of _ (by decide +kernel)) ggX6_layPlan_X6_trySpeeds
set_option maxRecDepth 20000 in
theorem ggX6_layPlan_X6_nearOf : GoodIn wsX6_layPlan wsX6_nearOf := goodIn_r _ [32, 6, 16, 17, 10, 18, 33, 34, 35, 40, 41, 42, 43, 44, 45, 46, 47, 48, 49, 50, 51, 52, 53, 54, 55, 56, 57, 58, 59, 60, 61, 62, 63, 64, 65, 66, 67, 68, 69, 70, 71, 72, 73, 74, 75] rfl (by decide +kernel)
set_option maxRecDepth 20000 in
theorem gX6_layPlan_X6_nearOf : GoodIn wsX6_layPlan (wsV RX6 163 RX6 yX6_nearOf wsX6_nearOf) := goodIn_app (goodIn_of _ (by decide +kernel)) ggX6_layPlan_X6_nearOf
set_option maxRecDepth 20000 in
theorem ggX6_layPlan_X6_heightOf : GoodIn wsX6_layPlan wsX6_heightOf := goodIn_r _ [39, 6, 16, 17, 10, 18, 33, 34, 35, 40, 41, 42, 43, 44, 45, 46, 47, 48, 49, 50, 51, 52, 53, 54, 55, 56, 57, 58, 59, 60, 61, 62, 63, 64, 65, 66, 67, 68, 69, 70, 71, 72, 73, 74, 75] rfl (by decide +kernel)
set_option maxRecDepth 20000 in
theorem gX6_layPlan_X6_heightOf : GoodIn wsX6_layPlan (wsV RX6 166 RX6 yX6_heightOf wsX6_heightOf) := goodIn_app (goodIn_of _ (by decide +kernel)) ggX6_layPlan_X6_heightOf
theorem inX6_layPlan_X6 : ∀ w ∈ u_ws RX6 TX6 36, w ∈ wsX6_layPlan := fun w h => List.mem_cons_of_mem _ (List.mem_append_right _ h)
set_option maxRecDepth 100000 in
set_option maxHeartbeats 4000000 in
theorem m_X6_layPlan {l : Launch} {D : va_G} {E : Nat → ClassId} {T : Nat → Nat} (o : Nat) (xa : Nat) (wa : Nat) (la : Nat) (ta : Nat) (sa : Nat) (pp : Nat) (ff : Nat) (nw : Nat) (B : Nat) (u0 : Value) (u1 : Value) (u2 : Value) (u4 : Value) (u5 : Value) (u6 : Value) (u7 : Value) (u8 : Value) (u9 : Value) (u10 : Value) (u11 : Value) (u12 : Value) (u13 : Value) (u14 : Value) (u15 : Value) (u16 : Value) (u17 : Value) (u18 : Value) (u19 : Value) (u20 : Value) (u21 : Value) (u22 : Value) (u23 : Value) (u24 : Value) (u25 : Value) (u26 : Value) (u33 : Value) (u34 : Value) (x : Nat → Int32) (S : TS) (gp : Nat → UInt32) (gt : Nat → UInt32) (ks : Int32) (kn : Int32) (kh : UInt32) (hok : OkS B S) (hp : pcn (sD S) ≤ 1) : g_M l D E T yX6_layPlan wsX6_layPlan 3 73 [.ref o, .ref pp, .ref ff] [(o, .inr (6, [u0, u1, u2, .ref xa, u4, u5, u6, u7, u8, u9, u10, u11, u12, u13, u14, u15, u16, u17, u18, u19, u20, u21, u22, u23, u24, u25, u26, .ref wa, .ref la, .ref ta, .int ks, .int kn, .float kh, u33, u34, .ref sa])), (xa, .inl (E 0, 12, .inl (g_tv 0))), (wa, .inl (E 0, 3, .inl (wnF nw x S))), (la, .inl (E 1, 4, .inr (.inr (.inl gp)))), (ta, .inl (E 1, 4, .inr (.inr (.inl gt)))), (sa, .inl (E 0, 9, .inl (g_tv 1))), (pp, .inl (E 0, 29, .inl (pgF S))), (ff, .inl (E 1, 5, .inr (.inr (.inl (fl5 S)))))] [(o, .inr (6, [u0, u1, u2, .ref xa, u4, u5, u6, u7, u8, u9, u10, u11, u12, u13, u14, u15, u16, u17, u18, u19, u20, u21, u22, u23, u24, u25, u26, .ref wa, .ref la, .ref ta, .int (cS nw x S), .int (neF (sD S) (FP.i2f (sT S 1)) (aiF (sF S) (eS nw x S) (cS nw x S)) 4), .float (heF (sD S) (aiF (sF S) (eS nw x S) (cS nw x S)) 4), u33, u34, .ref sa])), (xa, .inl (E 0, 12, .inl (g_tv 0))), (wa, .inl (E 0, 3, .inl (wnF nw x S))), (la, .inl (E 1, 4, .inr (.inr (.inl (amP (sD S) (aiF (sF S) (eS nw x S) (cS nw x S)) (sF S) 4))))), (ta, .inl (E 1, 4, .inr (.inr (.inl (amP (sD S) (aiF (sF S) (eS nw x S) (g_tv 1 (lpN (sD S)))) (sF S) 4))))), (sa, .inl (E 0, 9, .inl (g_tv 1))), (pp, .inl (E 0, 29, .inl (pgF S))), (ff, .inl (E 1, 5, .inr (.inr (.inl (fl5 S)))))] none := by
  obtain ⟨bs, hbs⟩ : ∃ bs : Nat → Int32, bs = bsF (sD S) (sF S) (eS nw x S) (FP.i2f (sT S 1)) := ⟨_, rfl⟩
  have hb0 : g_tv 1 0 = bs 0 := by rw [hbs]; rfl
  have hbT := fun (k : Nat) => @bsT (sD S) (sF S) (eS nw x S) (FP.i2f (sT S 1)) k
  have hbN := fun (k : Nat) => @bsN (sD S) (sF S) (eS nw x S) (FP.i2f (sT S 1)) k
  rw [← hbs] at hbT hbN
  refine g_M.of (cc := cX6_layPlan) (nL := 8) (ret := none) (own := RX6) (lv := [(0, .ref o), (1, .ref pp), (2, .ref ff)]) (by decide) rfl rfl (Nat.le_of_ble_eq_true rfl) rfl ?_
  intro p e R s m args below meth c A Q H locs ls hR hQ hc hr hw hl
  have hx := hc.1
  have hb := hc.2.1
  have hts := hc.2.2.2.1
  have hown := hc.2.2.2.2.1
  refine lv_aload_n hx hb dX6_layPlan_0 rfl (lv_at hl 1 rfl) ?_
  refine lv_iconst (v := 0) hx hb dX6_layPlan_1 (by decide) ?_
  refine g_ild hc hw 6 0 rfl rfl (by omega) (by decide) dX6_layPlan_2 ?_
  refine W.eq (congrArg (fun z => F0 m 3 ls (.int z :: [])) (show ((pgF S) 0 : Int32) = nI (sD S) from rfl)) ?_
  refine lv_if_ne (tgt := 11) hx hb dX6_layPlan_3 (by decide) (fun c_3 => ?_) (fun c_3 => ?_)
  · skip
    have hd0 : ¬ sD S = 0 := g_ne0 hok.d c_3
    refine lv_iconst (v := 1) hx hb dX6_layPlan_11 (by decide) ?_
    refine lv_istore_n (lv' := [(3, .int 1), (0, .ref o), (1, .ref pp), (2, .ref ff)]) hx hb dX6_layPlan_12 rfl hl (by decide) rfl (fun ls hl => ?_)
    refine lv_iconst (v := 0) hx hb dX6_layPlan_13 (by decide) ?_
    refine lv_istore (lv' := [(4, .int 0), (3, .int 1), (0, .ref o), (1, .ref pp), (2, .ref ff)]) hx hb dX6_layPlan_14 hl (by decide) rfl (fun ls hl => ?_)
    refine lv_iload hx hb dX6_layPlan_16 (lv_at hl 0 rfl) ?_
    refine lv_iload_n hx hb dX6_layPlan_18 rfl (lv_at hl 1 rfl) ?_
    refine lv_icmp_ge (tgt := 140) hx hb dX6_layPlan_19 (by decide) (fun c_19 => absurd c_19 (by decide)) (fun c_19 => ?_)
    refine lv_aload_n hx hb dX6_layPlan_22 rfl (lv_at hl 2 rfl) ?_
    refine lv_aload_n hx hb dX6_layPlan_23 rfl (lv_at hl 3 rfl) ?_
    refine lv_aload_n hx hb dX6_layPlan_24 rfl (lv_at hl 4 rfl) ?_
    refine lv_aload_n hx hb dX6_layPlan_25 rfl (lv_at hl 2 rfl) ?_
    refine g_get (TT := TX6) hc hw inX6_layPlan_X6 0 35 1 rfl rfl (by decide) rfl rfl dX6_layPlan_26 ?_
    refine lv_iload hx hb dX6_layPlan_29 (lv_at hl 0 rfl) ?_
    refine g_ild hc hw 5 0 rfl rfl (by omega) (by decide) dX6_layPlan_31 ?_
    refine g_cV (As := [.ref pp, .ref ff, .int (g_tv 1 0)]) (n := 3) (rest := []) (wc := [(o, .inr (6, [u0, u1, u2, .ref xa, u4, u5, u6, u7, u8, u9, u10, u11, u12, u13, u14, u15, u16, u17, u18, u19, u20, u21, u22, u23, u24, u25, u26, .ref wa, .ref la, .ref ta, .int ks, .int kn, .float kh, u33, u34, .ref sa])), (xa, .inl (E 0, 12, .inl (g_tv 0))), (wa, .inl (E 0, 3, .inl (wnF nw x S))), (ta, .inl (E 1, 4, .inr (.inr (.inl gt)))), (pp, .inl (E 0, 29, .inl (pgF S))), (ff, .inl (E 1, 5, .inr (.inr (.inl (fl5 S)))))]) (w1 := [(o, .inr (6, [u0, u1, u2, .ref xa, u4, u5, u6, u7, u8, u9, u10, u11, u12, u13, u14, u15, u16, u17, u18, u19, u20, u21, u22, u23, u24, u25, u26, .ref wa, .ref la, .ref ta, .int ks, .int kn, .float kh, u33, u34, .ref sa])), (xa, .inl (E 0, 12, .inl (g_tv 0))), (wa, .inl (E 0, 3, .inl (wnF nw x S))), (ta, .inl (E 1, 4, .inr (.inr (.inl (amP (sD S) (aiF (sF S) (eS nw x S) (g_tv 1 0)) (sF S) 4))))), (pp, .inl (E 0, 29, .inl (pgF S))), (ff, .inl (E 1, 5, .inr (.inr (.inl (fl5 S)))))]) (bytes := cX6_trySpeeds) (maxL := 7) (ret := none) hc hw hl.1 (m_X6_trySpeeds (l := l) (D := D) (E := E) (T := T) o xa wa ta pp ff nw B u0 u1 u2 u4 u5 u6 u7 u8 u9 u10 u11 u12 u13 u14 u15 u16 u17 u18 u19 u20 u21 u22 u23 u24 u25 u26 (.ref la) (.int ks) (.int kn) (.float kh) u33 u34 (.ref sa) x S gt (g_tv 1 0) hok hp) gX6_layPlan_X6_trySpeeds rfl (by decide +kernel) (by rw [hR]; exact ⟨Nat.le_of_ble_eq_true rfl, Nat.le_of_ble_eq_true rfl⟩) [0, 1, 2, 4, 6, 7] 0 6 rfl rfl (by decide) rfl [o, xa, wa, ta, pp, ff] rfl rfl rfl rfl (Nat.le_of_ble_eq_true rfl) dX6_layPlan_32 ⟨Nat.zero_le _, Nat.zero_le _⟩ (fun H locs hw => ?_)
    have hw : g_W D A s [(o, .inr (6, [u0, u1, u2, .ref xa, u4, u5, u6, u7, u8, u9, u10, u11, u12, u13, u14, u15, u16, u17, u18, u19, u20, u21, u22, u23, u24, u25, u26, .ref wa, .ref la, .ref ta, .int ks, .int kn, .float kh, u33, u34, .ref sa])), (xa, .inl (E 0, 12, .inl (g_tv 0))), (wa, .inl (E 0, 3, .inl (wnF nw x S))), (la, .inl (E 1, 4, .inr (.inr (.inl gp)))), (ta, .inl (E 1, 4, .inr (.inr (.inl (amP (sD S) (aiF (sF S) (eS nw x S) (g_tv 1 0)) (sF S) 4))))), (sa, .inl (E 0, 9, .inl (g_tv 1))), (pp, .inl (E 0, 29, .inl (pgF S))), (ff, .inl (E 1, 5, .inr (.inr (.inl (fl5 S)))))] H locs := hw
    refine lv_aload_n hx hb dX6_layPlan_35 rfl (lv_at hl 2 rfl) ?_
    refine lv_aload_n hx hb dX6_layPlan_36 rfl (lv_at hl 3 rfl) ?_
    refine g_cV (As := [.ref pp]) (n := 1) (rest := []) (wc := [(o, .inr (6, [u0, u1, u2, .ref xa, u4, u5, u6, u7, u8, u9, u10, u11, u12, u13, u14, u15, u16, u17, u18, u19, u20, u21, u22, u23, u24, u25, u26, .ref wa, .ref la, .ref ta, .int ks, .int kn, .float kh, u33, u34, .ref sa])), (ta, .inl (E 1, 4, .inr (.inr (.inl (amP (sD S) (aiF (sF S) (eS nw x S) (g_tv 1 0)) (sF S) 4))))), (pp, .inl (E 0, 29, .inl (pgF S)))]) (w1 := [(o, .inr (6, [u0, u1, u2, .ref xa, u4, u5, u6, u7, u8, u9, u10, u11, u12, u13, u14, u15, u16, u17, u18, u19, u20, u21, u22, u23, u24, u25, u26, .ref wa, .ref la, .ref ta, .int ks, .int kn, .float kh, u33, u34, .ref sa])), (ta, .inl (E 1, 4, .inr (.inr (.inl (amP (sD S) (aiF (sF S) (eS nw x S) (g_tv 1 0)) (sF S) 4))))), (pp, .inl (E 0, 29, .inl (pgF S)))]) (bytes := cX6_nearOf) (maxL := 4) (ret := (some .int)) hc hw hl.1 (m_X6_nearOf (l := l) (D := D) (E := E) (T := T) o ta pp u0 u1 u2 (.ref xa) u4 u5 u6 u7 u8 u9 u10 u11 u12 u13 u14 u15 u16 u17 u18 u19 u20 u21 u22 u23 u24 u25 u26 (.ref wa) (.ref la) (.int ks) (.int kn) (.float kh) u33 u34 (.ref sa) S (amP (sD S) (aiF (sF S) (eS nw x S) (g_tv 1 0)) (sF S) 4) hok.d) gX6_layPlan_X6_nearOf rfl (by decide +kernel) (by rw [hR]; exact ⟨Nat.le_of_ble_eq_true rfl, Nat.le_of_ble_eq_true rfl⟩) [0, 4, 6] 0 6 rfl rfl (by decide) rfl [o, ta, pp] rfl rfl rfl rfl (Nat.le_of_ble_eq_true rfl) dX6_layPlan_37 ⟨Nat.zero_le _, Nat.zero_le _⟩ (fun H locs hw => ?_)
    have hw : g_W D A s [(o, .inr (6, [u0, u1, u2, .ref xa, u4, u5, u6, u7, u8, u9, u10, u11, u12, u13, u14, u15, u16, u17, u18, u19, u20, u21, u22, u23, u24, u25, u26, .ref wa, .ref la, .ref ta, .int ks, .int kn, .float kh, u33, u34, .ref sa])), (xa, .inl (E 0, 12, .inl (g_tv 0))), (wa, .inl (E 0, 3, .inl (wnF nw x S))), (la, .inl (E 1, 4, .inr (.inr (.inl gp)))), (ta, .inl (E 1, 4, .inr (.inr (.inl (amP (sD S) (aiF (sF S) (eS nw x S) (g_tv 1 0)) (sF S) 4))))), (sa, .inl (E 0, 9, .inl (g_tv 1))), (pp, .inl (E 0, 29, .inl (pgF S))), (ff, .inl (E 1, 5, .inr (.inr (.inl (fl5 S)))))] H locs := hw
    refine W.eq (congrArg (fun z => F0 m 40 ls (.int z :: [])) (show (neF (sD S) (FP.i2f (sT S 1)) (amP (sD S) (aiF (sF S) (eS nw x S) (g_tv 1 0)) (sF S) 4) 4 : Int32) = neF (sD S) (FP.i2f (sT S 1)) (aiF (sF S) (eS nw x S) (g_tv 1 0)) 4 from (ne_am _ _ _ _ 4 (by omega)))) ?_
    refine lv_istore (lv' := [(5, .int (neF (sD S) (FP.i2f (sT S 1)) (aiF (sF S) (eS nw x S) (g_tv 1 0)) 4)), (4, .int 0), (3, .int 1), (0, .ref o), (1, .ref pp), (2, .ref ff)]) hx hb dX6_layPlan_40 hl (by decide) rfl (fun ls hl => ?_)
    refine lv_aload_n hx hb dX6_layPlan_42 rfl (lv_at hl 3 rfl) ?_
    refine lv_aload_n hx hb dX6_layPlan_43 rfl (lv_at hl 4 rfl) ?_
    refine g_cV (As := [.ref pp]) (n := 1) (rest := []) (wc := [(o, .inr (6, [u0, u1, u2, .ref xa, u4, u5, u6, u7, u8, u9, u10, u11, u12, u13, u14, u15, u16, u17, u18, u19, u20, u21, u22, u23, u24, u25, u26, .ref wa, .ref la, .ref ta, .int ks, .int kn, .float kh, u33, u34, .ref sa])), (ta, .inl (E 1, 4, .inr (.inr (.inl (amP (sD S) (aiF (sF S) (eS nw x S) (g_tv 1 0)) (sF S) 4))))), (pp, .inl (E 0, 29, .inl (pgF S)))]) (w1 := [(o, .inr (6, [u0, u1, u2, .ref xa, u4, u5, u6, u7, u8, u9, u10, u11, u12, u13, u14, u15, u16, u17, u18, u19, u20, u21, u22, u23, u24, u25, u26, .ref wa, .ref la, .ref ta, .int ks, .int kn, .float kh, u33, u34, .ref sa])), (ta, .inl (E 1, 4, .inr (.inr (.inl (amP (sD S) (aiF (sF S) (eS nw x S) (g_tv 1 0)) (sF S) 4))))), (pp, .inl (E 0, 29, .inl (pgF S)))]) (bytes := cX6_heightOf) (maxL := 4) (ret := (some .float)) hc hw hl.1 (m_X6_heightOf (l := l) (D := D) (E := E) (T := T) o ta pp u0 u1 u2 (.ref xa) u4 u5 u6 u7 u8 u9 u10 u11 u12 u13 u14 u15 u16 u17 u18 u19 u20 u21 u22 u23 u24 u25 u26 (.ref wa) (.ref la) (.int ks) (.int kn) (.float kh) u33 u34 (.ref sa) S (amP (sD S) (aiF (sF S) (eS nw x S) (g_tv 1 0)) (sF S) 4) hok.d) gX6_layPlan_X6_heightOf rfl (by decide +kernel) (by rw [hR]; exact ⟨Nat.le_of_ble_eq_true rfl, Nat.le_of_ble_eq_true rfl⟩) [0, 4, 6] 0 6 rfl rfl (by decide) rfl [o, ta, pp] rfl rfl rfl rfl (Nat.le_of_ble_eq_true rfl) dX6_layPlan_44 ⟨Nat.zero_le _, Nat.zero_le _⟩ (fun H locs hw => ?_)
    have hw : g_W D A s [(o, .inr (6, [u0, u1, u2, .ref xa, u4, u5, u6, u7, u8, u9, u10, u11, u12, u13, u14, u15, u16, u17, u18, u19, u20, u21, u22, u23, u24, u25, u26, .ref wa, .ref la, .ref ta, .int ks, .int kn, .float kh, u33, u34, .ref sa])), (xa, .inl (E 0, 12, .inl (g_tv 0))), (wa, .inl (E 0, 3, .inl (wnF nw x S))), (la, .inl (E 1, 4, .inr (.inr (.inl gp)))), (ta, .inl (E 1, 4, .inr (.inr (.inl (amP (sD S) (aiF (sF S) (eS nw x S) (g_tv 1 0)) (sF S) 4))))), (sa, .inl (E 0, 9, .inl (g_tv 1))), (pp, .inl (E 0, 29, .inl (pgF S))), (ff, .inl (E 1, 5, .inr (.inr (.inl (fl5 S)))))] H locs := hw
    refine W.eq (congrArg (fun z => F0 m 47 ls (.float z :: [])) (show (heF (sD S) (amP (sD S) (aiF (sF S) (eS nw x S) (g_tv 1 0)) (sF S) 4) 4 : UInt32) = heF (sD S) (aiF (sF S) (eS nw x S) (g_tv 1 0)) 4 from (he_am _ _ _ 4 (by omega)))) ?_
    refine lv_fstore (lv' := [(6, .float (heF (sD S) (aiF (sF S) (eS nw x S) (g_tv 1 0)) 4)), (5, .int (neF (sD S) (FP.i2f (sT S 1)) (aiF (sF S) (eS nw x S) (g_tv 1 0)) 4)), (4, .int 0), (3, .int 1), (0, .ref o), (1, .ref pp), (2, .ref ff)]) hx hb dX6_layPlan_47 hl (by decide) rfl (fun ls hl => ?_)
    refine lv_iload hx hb dX6_layPlan_49 (lv_at hl 2 rfl) ?_
    refine lv_if_eq (tgt := 82) hx hb dX6_layPlan_51 (by decide) (fun c_51 => ?_) (fun c_51 => absurd c_51 (by decide))
    refine lv_aload_n hx hb dX6_layPlan_82 rfl (lv_at hl 4 rfl) ?_
    refine lv_aload_n hx hb dX6_layPlan_83 rfl (lv_at hl 4 rfl) ?_
    refine g_get (TT := TX6) hc hw inX6_layPlan_X6 0 35 1 rfl rfl (by decide) rfl rfl dX6_layPlan_84 ?_
    refine lv_iload hx hb dX6_layPlan_87 (lv_at hl 2 rfl) ?_
    refine g_ild hc hw 5 0 rfl rfl (by omega) (by decide) dX6_layPlan_89 ?_
    refine g_put (TT := TX6) hc hw inX6_layPlan_X6 tyX6 tyX6_ok nmX6 0 30 4 rfl rfl (by decide) rfl rfl rfl rfl (Nat.le_of_ble_eq_true rfl) dX6_layPlan_90 (fun H locs hw => ?_)
    have hw : g_W D A s [(o, .inr (6, [u0, u1, u2, .ref xa, u4, u5, u6, u7, u8, u9, u10, u11, u12, u13, u14, u15, u16, u17, u18, u19, u20, u21, u22, u23, u24, u25, u26, .ref wa, .ref la, .ref ta, .int (g_tv 1 0), .int kn, .float kh, u33, u34, .ref sa])), (xa, .inl (E 0, 12, .inl (g_tv 0))), (wa, .inl (E 0, 3, .inl (wnF nw x S))), (la, .inl (E 1, 4, .inr (.inr (.inl gp)))), (ta, .inl (E 1, 4, .inr (.inr (.inl (amP (sD S) (aiF (sF S) (eS nw x S) (g_tv 1 0)) (sF S) 4))))), (sa, .inl (E 0, 9, .inl (g_tv 1))), (pp, .inl (E 0, 29, .inl (pgF S))), (ff, .inl (E 1, 5, .inr (.inr (.inl (fl5 S)))))] H locs := hw
    refine lv_aload_n hx hb dX6_layPlan_93 rfl (lv_at hl 4 rfl) ?_
    refine lv_iload hx hb dX6_layPlan_94 (lv_at hl 1 rfl) ?_
    refine g_put (TT := TX6) hc hw inX6_layPlan_X6 tyX6 tyX6_ok nmX6 0 31 2 rfl rfl (by decide) rfl rfl rfl rfl (Nat.le_of_ble_eq_true rfl) dX6_layPlan_96 (fun H locs hw => ?_)
    have hw : g_W D A s [(o, .inr (6, [u0, u1, u2, .ref xa, u4, u5, u6, u7, u8, u9, u10, u11, u12, u13, u14, u15, u16, u17, u18, u19, u20, u21, u22, u23, u24, u25, u26, .ref wa, .ref la, .ref ta, .int (g_tv 1 0), .int (neF (sD S) (FP.i2f (sT S 1)) (aiF (sF S) (eS nw x S) (g_tv 1 0)) 4), .float kh, u33, u34, .ref sa])), (xa, .inl (E 0, 12, .inl (g_tv 0))), (wa, .inl (E 0, 3, .inl (wnF nw x S))), (la, .inl (E 1, 4, .inr (.inr (.inl gp)))), (ta, .inl (E 1, 4, .inr (.inr (.inl (amP (sD S) (aiF (sF S) (eS nw x S) (g_tv 1 0)) (sF S) 4))))), (sa, .inl (E 0, 9, .inl (g_tv 1))), (pp, .inl (E 0, 29, .inl (pgF S))), (ff, .inl (E 1, 5, .inr (.inr (.inl (fl5 S)))))] H locs := hw
    refine lv_aload_n hx hb dX6_layPlan_99 rfl (lv_at hl 4 rfl) ?_
    refine lv_fload hx hb dX6_layPlan_100 (lv_at hl 0 rfl) ?_
    refine g_put (TT := TX6) hc hw inX6_layPlan_X6 tyX6 tyX6_ok nmX6 0 32 3 rfl rfl (by decide) rfl rfl rfl rfl (Nat.le_of_ble_eq_true rfl) dX6_layPlan_102 (fun H locs hw => ?_)
    have hw : g_W D A s [(o, .inr (6, [u0, u1, u2, .ref xa, u4, u5, u6, u7, u8, u9, u10, u11, u12, u13, u14, u15, u16, u17, u18, u19, u20, u21, u22, u23, u24, u25, u26, .ref wa, .ref la, .ref ta, .int (g_tv 1 0), .int (neF (sD S) (FP.i2f (sT S 1)) (aiF (sF S) (eS nw x S) (g_tv 1 0)) 4), .float (heF (sD S) (aiF (sF S) (eS nw x S) (g_tv 1 0)) 4), u33, u34, .ref sa])), (xa, .inl (E 0, 12, .inl (g_tv 0))), (wa, .inl (E 0, 3, .inl (wnF nw x S))), (la, .inl (E 1, 4, .inr (.inr (.inl gp)))), (ta, .inl (E 1, 4, .inr (.inr (.inl (amP (sD S) (aiF (sF S) (eS nw x S) (g_tv 1 0)) (sF S) 4))))), (sa, .inl (E 0, 9, .inl (g_tv 1))), (pp, .inl (E 0, 29, .inl (pgF S))), (ff, .inl (E 1, 5, .inr (.inr (.inl (fl5 S)))))] H locs := hw
    refine lv_iconst (v := 0) hx hb dX6_layPlan_105 (by decide) ?_
    refine lv_istore (lv' := [(7, .int 0), (6, .float (heF (sD S) (aiF (sF S) (eS nw x S) (g_tv 1 0)) 4)), (5, .int (neF (sD S) (FP.i2f (sT S 1)) (aiF (sF S) (eS nw x S) (g_tv 1 0)) 4)), (4, .int 0), (3, .int 1), (0, .ref o), (1, .ref pp), (2, .ref ff)]) hx hb dX6_layPlan_106 hl (by decide) rfl (fun ls hl => ?_)
    have J108 : ∀ (k9 : Nat) (i7 : Nat), i7 + k9 = 4 → ∀ (H : Heap) (locs : List Loc) (ls : Array Slot), g_W D A s [(o, .inr (6, [u0, u1, u2, .ref xa, u4, u5, u6, u7, u8, u9, u10, u11, u12, u13, u14, u15, u16, u17, u18, u19, u20, u21, u22, u23, u24, u25, u26, .ref wa, .ref la, .ref ta, .int (g_tv 1 0), .int (neF (sD S) (FP.i2f (sT S 1)) (aiF (sF S) (eS nw x S) (g_tv 1 0)) 4), .float (heF (sD S) (aiF (sF S) (eS nw x S) (g_tv 1 0)) 4), u33, u34, .ref sa])), (xa, .inl (E 0, 12, .inl (g_tv 0))), (wa, .inl (E 0, 3, .inl (wnF nw x S))), (la, .inl (E 1, 4, .inr (.inr (.inl (cpF (amP (sD S) (aiF (sF S) (eS nw x S) (g_tv 1 0)) (sF S) 4) (gp) i7))))), (ta, .inl (E 1, 4, .inr (.inr (.inl (amP (sD S) (aiF (sF S) (eS nw x S) (g_tv 1 0)) (sF S) 4))))), (sa, .inl (E 0, 9, .inl (g_tv 1))), (pp, .inl (E 0, 29, .inl (pgF S))), (ff, .inl (E 1, 5, .inr (.inr (.inl (fl5 S)))))] H locs → lv_has ls 8 [(0, .ref o), (1, .ref pp), (2, .ref ff), (3, .int 1), (4, .int 0), (5, .int (neF (sD S) (FP.i2f (sT S 1)) (aiF (sF S) (eS nw x S) (g_tv 1 0)) 4)), (6, .float (heF (sD S) (aiF (sF S) (eS nw x S) (g_tv 1 0)) 4)), (7, .int (nI i7))] → W p l e R s m args below meth c H locs 0 0 Q (F0 m 108 ls []) := by
      intro k9
      induction k9 with
      | zero =>
        intro i7 h9   H locs ls hw hl
        have h9 : i7 = 4 := h9
        subst h9
        refine lv_iload hx hb dX6_layPlan_108 (lv_at hl 7 rfl) ?_
        refine lv_iconst (v := 4) hx hb dX6_layPlan_110 (by decide) ?_
        refine lv_icmp_ge (tgt := 134) hx hb dX6_layPlan_111 (by decide) (fun c_111 => ?_) (fun c_111 => absurd (by first | exact Int32.le_refl _ | decide) c_111)
        have hw := g_reF (q0 := 3) (g := amP (sD S) (aiF (sF S) (eS nw x S) (g_tv 1 0)) (sF S) 4) hw rfl (cpF_n _ _ 4)
        have hw : g_W D A s [(o, .inr (6, [u0, u1, u2, .ref xa, u4, u5, u6, u7, u8, u9, u10, u11, u12, u13, u14, u15, u16, u17, u18, u19, u20, u21, u22, u23, u24, u25, u26, .ref wa, .ref la, .ref ta, .int (g_tv 1 0), .int (neF (sD S) (FP.i2f (sT S 1)) (aiF (sF S) (eS nw x S) (g_tv 1 0)) 4), .float (heF (sD S) (aiF (sF S) (eS nw x S) (g_tv 1 0)) 4), u33, u34, .ref sa])), (xa, .inl (E 0, 12, .inl (g_tv 0))), (wa, .inl (E 0, 3, .inl (wnF nw x S))), (la, .inl (E 1, 4, .inr (.inr (.inl (amP (sD S) (aiF (sF S) (eS nw x S) (g_tv 1 0)) (sF S) 4))))), (ta, .inl (E 1, 4, .inr (.inr (.inl (amP (sD S) (aiF (sF S) (eS nw x S) (g_tv 1 0)) (sF S) 4))))), (sa, .inl (E 0, 9, .inl (g_tv 1))), (pp, .inl (E 0, 29, .inl (pgF S))), (ff, .inl (E 1, 5, .inr (.inr (.inl (fl5 S)))))] H locs := hw
        refine lv_iinc (v := 1) (lv' := [(4, .int 1), (0, .ref o), (1, .ref pp), (2, .ref ff), (3, .int 1), (5, .int (neF (sD S) (FP.i2f (sT S 1)) (aiF (sF S) (eS nw x S) (g_tv 1 0)) 4)), (6, .float (heF (sD S) (aiF (sF S) (eS nw x S) (g_tv 1 0)) 4)), (7, .int (nI 4))]) hx hb dX6_layPlan_134 hl (k := 4) rfl (by decide) (by decide) rfl (fun ls hl => ?_)
        refine lv_goto (tgt := 16) hx hb dX6_layPlan_137 (by decide) ?_
        refine lv_iload hx hb dX6_layPlan_16 (lv_at hl 0 rfl) ?_
        refine lv_iload_n hx hb dX6_layPlan_18 rfl (lv_at hl 4 rfl) ?_
        refine lv_icmp_ge (tgt := 140) hx hb dX6_layPlan_19 (by decide) (fun c_19 => ?_) (fun c_19 => absurd c_19 (by decide))
        exact g_vret hQ hc hw hr rfl (by rw [show cS nw x S = g_tv 1 0 from if_neg hd0, show lpN (sD S) = 0 from if_neg hd0]) dX6_layPlan_140
      | succ k9 ih =>
        intro i7 h9   H locs ls hw hl
        have h9b : i7 < 4 := by omega
        refine lv_iload hx hb dX6_layPlan_108 (lv_at hl 7 rfl) ?_
        refine lv_iconst (v := 4) hx hb dX6_layPlan_110 (by decide) ?_
        refine lv_icmp_ge (tgt := 134) hx hb dX6_layPlan_111 (by decide) (fun c_111 => absurd c_111 (nI_ge h9b (by decide))) (fun c_111 => ?_)
        refine lv_aload_n hx hb dX6_layPlan_114 rfl (lv_at hl 0 rfl) ?_
        refine g_get (TT := TX6) hc hw inX6_layPlan_X6 0 28 5 rfl rfl (by decide) rfl rfl dX6_layPlan_115 ?_
        refine lv_iload hx hb dX6_layPlan_118 (lv_at hl 7 rfl) ?_
        refine lv_aload_n hx hb dX6_layPlan_120 rfl (lv_at hl 0 rfl) ?_
        refine g_get (TT := TX6) hc hw inX6_layPlan_X6 0 29 6 rfl rfl (by decide) rfl rfl dX6_layPlan_121 ?_
        refine lv_iload hx hb dX6_layPlan_124 (lv_at hl 7 rfl) ?_
        refine g_fld hc hw 4 i7 rfl rfl (by omega) (by decide) dX6_layPlan_126 ?_
        refine g_fst hc hw 3 i7 rfl rfl (by omega) (by decide) dX6_layPlan_127 (fun H locs hw => ?_)
        have hw : g_W D A s [(o, .inr (6, [u0, u1, u2, .ref xa, u4, u5, u6, u7, u8, u9, u10, u11, u12, u13, u14, u15, u16, u17, u18, u19, u20, u21, u22, u23, u24, u25, u26, .ref wa, .ref la, .ref ta, .int (g_tv 1 0), .int (neF (sD S) (FP.i2f (sT S 1)) (aiF (sF S) (eS nw x S) (g_tv 1 0)) 4), .float (heF (sD S) (aiF (sF S) (eS nw x S) (g_tv 1 0)) 4), u33, u34, .ref sa])), (xa, .inl (E 0, 12, .inl (g_tv 0))), (wa, .inl (E 0, 3, .inl (wnF nw x S))), (la, .inl (E 1, 4, .inr (.inr (.inl (vf_upd (cpF (amP (sD S) (aiF (sF S) (eS nw x S) (g_tv 1 0)) (sF S) 4) (gp) i7) i7 ((amP (sD S) (aiF (sF S) (eS nw x S) (g_tv 1 0)) (sF S) 4) i7)))))), (ta, .inl (E 1, 4, .inr (.inr (.inl (amP (sD S) (aiF (sF S) (eS nw x S) (g_tv 1 0)) (sF S) 4))))), (sa, .inl (E 0, 9, .inl (g_tv 1))), (pp, .inl (E 0, 29, .inl (pgF S))), (ff, .inl (E 1, 5, .inr (.inr (.inl (fl5 S)))))] H locs := hw
        refine lv_iinc (v := nI (i7 + 1)) (lv' := [(7, .int (nI (i7 + 1))), (0, .ref o), (1, .ref pp), (2, .ref ff), (3, .int 1), (4, .int 0), (5, .int (neF (sD S) (FP.i2f (sT S 1)) (aiF (sF S) (eS nw x S) (g_tv 1 0)) 4)), (6, .float (heF (sD S) (aiF (sF S) (eS nw x S) (g_tv 1 0)) 4))]) hx hb dX6_layPlan_128 hl (k := 7) rfl (n_inc1 rfl) (by decide) rfl (fun ls hl => ?_)
        refine lv_goto (tgt := 108) hx hb dX6_layPlan_131 (by decide) ?_
        have hw : g_W D A s [(o, .inr (6, [u0, u1, u2, .ref xa, u4, u5, u6, u7, u8, u9, u10, u11, u12, u13, u14, u15, u16, u17, u18, u19, u20, u21, u22, u23, u24, u25, u26, .ref wa, .ref la, .ref ta, .int (g_tv 1 0), .int (neF (sD S) (FP.i2f (sT S 1)) (aiF (sF S) (eS nw x S) (g_tv 1 0)) 4), .float (heF (sD S) (aiF (sF S) (eS nw x S) (g_tv 1 0)) 4), u33, u34, .ref sa])), (xa, .inl (E 0, 12, .inl (g_tv 0))), (wa, .inl (E 0, 3, .inl (wnF nw x S))), (la, .inl (E 1, 4, .inr (.inr (.inl (cpF (amP (sD S) (aiF (sF S) (eS nw x S) (g_tv 1 0)) (sF S) 4) (gp) (i7 + 1)))))), (ta, .inl (E 1, 4, .inr (.inr (.inl (amP (sD S) (aiF (sF S) (eS nw x S) (g_tv 1 0)) (sF S) 4))))), (sa, .inl (E 0, 9, .inl (g_tv 1))), (pp, .inl (E 0, 29, .inl (pgF S))), (ff, .inl (E 1, 5, .inr (.inr (.inl (fl5 S)))))] H locs := by
          have e3 : (vf_upd (cpF (amP (sD S) (aiF (sF S) (eS nw x S) (g_tv 1 0)) (sF S) 4) (gp) i7) i7 ((amP (sD S) (aiF (sF S) (eS nw x S) (g_tv 1 0)) (sF S) 4) i7)) = (cpF (amP (sD S) (aiF (sF S) (eS nw x S) (g_tv 1 0)) (sF S) 4) (gp) (i7 + 1)) := by exact cpF_s _ rfl
          rw [e3] at hw
          exact hw
        exact ih (i7 + 1) (by omega)   _ _ _ hw (lv_sub hl [1, 2, 3, 4, 5, 6, 7, 0] rfl)
    have hw : g_W D A s [(o, .inr (6, [u0, u1, u2, .ref xa, u4, u5, u6, u7, u8, u9, u10, u11, u12, u13, u14, u15, u16, u17, u18, u19, u20, u21, u22, u23, u24, u25, u26, .ref wa, .ref la, .ref ta, .int (g_tv 1 0), .int (neF (sD S) (FP.i2f (sT S 1)) (aiF (sF S) (eS nw x S) (g_tv 1 0)) 4), .float (heF (sD S) (aiF (sF S) (eS nw x S) (g_tv 1 0)) 4), u33, u34, .ref sa])), (xa, .inl (E 0, 12, .inl (g_tv 0))), (wa, .inl (E 0, 3, .inl (wnF nw x S))), (la, .inl (E 1, 4, .inr (.inr (.inl (cpF (amP (sD S) (aiF (sF S) (eS nw x S) (g_tv 1 0)) (sF S) 4) (gp) 0))))), (ta, .inl (E 1, 4, .inr (.inr (.inl (amP (sD S) (aiF (sF S) (eS nw x S) (g_tv 1 0)) (sF S) 4))))), (sa, .inl (E 0, 9, .inl (g_tv 1))), (pp, .inl (E 0, 29, .inl (pgF S))), (ff, .inl (E 1, 5, .inr (.inr (.inl (fl5 S)))))] H locs := by
      have e3 : gp = (cpF (amP (sD S) (aiF (sF S) (eS nw x S) (g_tv 1 0)) (sF S) 4) (gp) 0) := by exact cpF_0 _ _
      rw [e3] at hw
      exact hw
    exact J108 4 0 (by omega)   _ _ _ hw (lv_sub hl [5, 6, 7, 4, 3, 2, 1, 0] rfl)
  · skip
    have hd0 : sD S = 0 := g_eq0 hok.d c_3
    refine lv_bipush (v := 9) hx hb dX6_layPlan_6 (by decide) ?_
    refine lv_goto (tgt := 12) hx hb dX6_layPlan_8 (by decide) ?_
    refine lv_istore_n (lv' := [(3, .int 9), (0, .ref o), (1, .ref pp), (2, .ref ff)]) hx hb dX6_layPlan_12 rfl hl (by decide) rfl (fun ls hl => ?_)
    refine lv_iconst (v := 0) hx hb dX6_layPlan_13 (by decide) ?_
    refine lv_istore (lv' := [(4, .int 0), (3, .int 9), (0, .ref o), (1, .ref pp), (2, .ref ff)]) hx hb dX6_layPlan_14 hl (by decide) rfl (fun ls hl => ?_)
    refine lv_iload hx hb dX6_layPlan_16 (lv_at hl 0 rfl) ?_
    refine lv_iload_n hx hb dX6_layPlan_18 rfl (lv_at hl 1 rfl) ?_
    refine lv_icmp_ge (tgt := 140) hx hb dX6_layPlan_19 (by decide) (fun c_19 => absurd c_19 (by decide)) (fun c_19 => ?_)
    refine lv_aload_n hx hb dX6_layPlan_22 rfl (lv_at hl 2 rfl) ?_
    refine lv_aload_n hx hb dX6_layPlan_23 rfl (lv_at hl 3 rfl) ?_
    refine lv_aload_n hx hb dX6_layPlan_24 rfl (lv_at hl 4 rfl) ?_
    refine lv_aload_n hx hb dX6_layPlan_25 rfl (lv_at hl 2 rfl) ?_
    refine g_get (TT := TX6) hc hw inX6_layPlan_X6 0 35 1 rfl rfl (by decide) rfl rfl dX6_layPlan_26 ?_
    refine lv_iload hx hb dX6_layPlan_29 (lv_at hl 0 rfl) ?_
    refine g_ild hc hw 5 0 rfl rfl (by omega) (by decide) dX6_layPlan_31 ?_
    refine g_cV (As := [.ref pp, .ref ff, .int (g_tv 1 0)]) (n := 3) (rest := []) (wc := [(o, .inr (6, [u0, u1, u2, .ref xa, u4, u5, u6, u7, u8, u9, u10, u11, u12, u13, u14, u15, u16, u17, u18, u19, u20, u21, u22, u23, u24, u25, u26, .ref wa, .ref la, .ref ta, .int ks, .int kn, .float kh, u33, u34, .ref sa])), (xa, .inl (E 0, 12, .inl (g_tv 0))), (wa, .inl (E 0, 3, .inl (wnF nw x S))), (ta, .inl (E 1, 4, .inr (.inr (.inl gt)))), (pp, .inl (E 0, 29, .inl (pgF S))), (ff, .inl (E 1, 5, .inr (.inr (.inl (fl5 S)))))]) (w1 := [(o, .inr (6, [u0, u1, u2, .ref xa, u4, u5, u6, u7, u8, u9, u10, u11, u12, u13, u14, u15, u16, u17, u18, u19, u20, u21, u22, u23, u24, u25, u26, .ref wa, .ref la, .ref ta, .int ks, .int kn, .float kh, u33, u34, .ref sa])), (xa, .inl (E 0, 12, .inl (g_tv 0))), (wa, .inl (E 0, 3, .inl (wnF nw x S))), (ta, .inl (E 1, 4, .inr (.inr (.inl (amP (sD S) (aiF (sF S) (eS nw x S) (g_tv 1 0)) (sF S) 4))))), (pp, .inl (E 0, 29, .inl (pgF S))), (ff, .inl (E 1, 5, .inr (.inr (.inl (fl5 S)))))]) (bytes := cX6_trySpeeds) (maxL := 7) (ret := none) hc hw hl.1 (m_X6_trySpeeds (l := l) (D := D) (E := E) (T := T) o xa wa ta pp ff nw B u0 u1 u2 u4 u5 u6 u7 u8 u9 u10 u11 u12 u13 u14 u15 u16 u17 u18 u19 u20 u21 u22 u23 u24 u25 u26 (.ref la) (.int ks) (.int kn) (.float kh) u33 u34 (.ref sa) x S gt (g_tv 1 0) hok hp) gX6_layPlan_X6_trySpeeds rfl (by decide +kernel) (by rw [hR]; exact ⟨Nat.le_of_ble_eq_true rfl, Nat.le_of_ble_eq_true rfl⟩) [0, 1, 2, 4, 6, 7] 0 6 rfl rfl (by decide) rfl [o, xa, wa, ta, pp, ff] rfl rfl rfl rfl (Nat.le_of_ble_eq_true rfl) dX6_layPlan_32 ⟨Nat.zero_le _, Nat.zero_le _⟩ (fun H locs hw => ?_)
    have hw : g_W D A s [(o, .inr (6, [u0, u1, u2, .ref xa, u4, u5, u6, u7, u8, u9, u10, u11, u12, u13, u14, u15, u16, u17, u18, u19, u20, u21, u22, u23, u24, u25, u26, .ref wa, .ref la, .ref ta, .int ks, .int kn, .float kh, u33, u34, .ref sa])), (xa, .inl (E 0, 12, .inl (g_tv 0))), (wa, .inl (E 0, 3, .inl (wnF nw x S))), (la, .inl (E 1, 4, .inr (.inr (.inl gp)))), (ta, .inl (E 1, 4, .inr (.inr (.inl (amP (sD S) (aiF (sF S) (eS nw x S) (g_tv 1 0)) (sF S) 4))))), (sa, .inl (E 0, 9, .inl (g_tv 1))), (pp, .inl (E 0, 29, .inl (pgF S))), (ff, .inl (E 1, 5, .inr (.inr (.inl (fl5 S)))))] H locs := hw
    refine lv_aload_n hx hb dX6_layPlan_35 rfl (lv_at hl 2 rfl) ?_
    refine lv_aload_n hx hb dX6_layPlan_36 rfl (lv_at hl 3 rfl) ?_
    refine g_cV (As := [.ref pp]) (n := 1) (rest := []) (wc := [(o, .inr (6, [u0, u1, u2, .ref xa, u4, u5, u6, u7, u8, u9, u10, u11, u12, u13, u14, u15, u16, u17, u18, u19, u20, u21, u22, u23, u24, u25, u26, .ref wa, .ref la, .ref ta, .int ks, .int kn, .float kh, u33, u34, .ref sa])), (ta, .inl (E 1, 4, .inr (.inr (.inl (amP (sD S) (aiF (sF S) (eS nw x S) (g_tv 1 0)) (sF S) 4))))), (pp, .inl (E 0, 29, .inl (pgF S)))]) (w1 := [(o, .inr (6, [u0, u1, u2, .ref xa, u4, u5, u6, u7, u8, u9, u10, u11, u12, u13, u14, u15, u16, u17, u18, u19, u20, u21, u22, u23, u24, u25, u26, .ref wa, .ref la, .ref ta, .int ks, .int kn, .float kh, u33, u34, .ref sa])), (ta, .inl (E 1, 4, .inr (.inr (.inl (amP (sD S) (aiF (sF S) (eS nw x S) (g_tv 1 0)) (sF S) 4))))), (pp, .inl (E 0, 29, .inl (pgF S)))]) (bytes := cX6_nearOf) (maxL := 4) (ret := (some .int)) hc hw hl.1 (m_X6_nearOf (l := l) (D := D) (E := E) (T := T) o ta pp u0 u1 u2 (.ref xa) u4 u5 u6 u7 u8 u9 u10 u11 u12 u13 u14 u15 u16 u17 u18 u19 u20 u21 u22 u23 u24 u25 u26 (.ref wa) (.ref la) (.int ks) (.int kn) (.float kh) u33 u34 (.ref sa) S (amP (sD S) (aiF (sF S) (eS nw x S) (g_tv 1 0)) (sF S) 4) hok.d) gX6_layPlan_X6_nearOf rfl (by decide +kernel) (by rw [hR]; exact ⟨Nat.le_of_ble_eq_true rfl, Nat.le_of_ble_eq_true rfl⟩) [0, 4, 6] 0 6 rfl rfl (by decide) rfl [o, ta, pp] rfl rfl rfl rfl (Nat.le_of_ble_eq_true rfl) dX6_layPlan_37 ⟨Nat.zero_le _, Nat.zero_le _⟩ (fun H locs hw => ?_)
    have hw : g_W D A s [(o, .inr (6, [u0, u1, u2, .ref xa, u4, u5, u6, u7, u8, u9, u10, u11, u12, u13, u14, u15, u16, u17, u18, u19, u20, u21, u22, u23, u24, u25, u26, .ref wa, .ref la, .ref ta, .int ks, .int kn, .float kh, u33, u34, .ref sa])), (xa, .inl (E 0, 12, .inl (g_tv 0))), (wa, .inl (E 0, 3, .inl (wnF nw x S))), (la, .inl (E 1, 4, .inr (.inr (.inl gp)))), (ta, .inl (E 1, 4, .inr (.inr (.inl (amP (sD S) (aiF (sF S) (eS nw x S) (g_tv 1 0)) (sF S) 4))))), (sa, .inl (E 0, 9, .inl (g_tv 1))), (pp, .inl (E 0, 29, .inl (pgF S))), (ff, .inl (E 1, 5, .inr (.inr (.inl (fl5 S)))))] H locs := hw
    refine W.eq (congrArg (fun z => F0 m 40 ls (.int z :: [])) (show (neF (sD S) (FP.i2f (sT S 1)) (amP (sD S) (aiF (sF S) (eS nw x S) (g_tv 1 0)) (sF S) 4) 4 : Int32) = neF (sD S) (FP.i2f (sT S 1)) (aiF (sF S) (eS nw x S) (g_tv 1 0)) 4 from (ne_am _ _ _ _ 4 (by omega)))) ?_
    refine lv_istore (lv' := [(5, .int (neF (sD S) (FP.i2f (sT S 1)) (aiF (sF S) (eS nw x S) (g_tv 1 0)) 4)), (4, .int 0), (3, .int 9), (0, .ref o), (1, .ref pp), (2, .ref ff)]) hx hb dX6_layPlan_40 hl (by decide) rfl (fun ls hl => ?_)
    refine lv_aload_n hx hb dX6_layPlan_42 rfl (lv_at hl 3 rfl) ?_
    refine lv_aload_n hx hb dX6_layPlan_43 rfl (lv_at hl 4 rfl) ?_
    refine g_cV (As := [.ref pp]) (n := 1) (rest := []) (wc := [(o, .inr (6, [u0, u1, u2, .ref xa, u4, u5, u6, u7, u8, u9, u10, u11, u12, u13, u14, u15, u16, u17, u18, u19, u20, u21, u22, u23, u24, u25, u26, .ref wa, .ref la, .ref ta, .int ks, .int kn, .float kh, u33, u34, .ref sa])), (ta, .inl (E 1, 4, .inr (.inr (.inl (amP (sD S) (aiF (sF S) (eS nw x S) (g_tv 1 0)) (sF S) 4))))), (pp, .inl (E 0, 29, .inl (pgF S)))]) (w1 := [(o, .inr (6, [u0, u1, u2, .ref xa, u4, u5, u6, u7, u8, u9, u10, u11, u12, u13, u14, u15, u16, u17, u18, u19, u20, u21, u22, u23, u24, u25, u26, .ref wa, .ref la, .ref ta, .int ks, .int kn, .float kh, u33, u34, .ref sa])), (ta, .inl (E 1, 4, .inr (.inr (.inl (amP (sD S) (aiF (sF S) (eS nw x S) (g_tv 1 0)) (sF S) 4))))), (pp, .inl (E 0, 29, .inl (pgF S)))]) (bytes := cX6_heightOf) (maxL := 4) (ret := (some .float)) hc hw hl.1 (m_X6_heightOf (l := l) (D := D) (E := E) (T := T) o ta pp u0 u1 u2 (.ref xa) u4 u5 u6 u7 u8 u9 u10 u11 u12 u13 u14 u15 u16 u17 u18 u19 u20 u21 u22 u23 u24 u25 u26 (.ref wa) (.ref la) (.int ks) (.int kn) (.float kh) u33 u34 (.ref sa) S (amP (sD S) (aiF (sF S) (eS nw x S) (g_tv 1 0)) (sF S) 4) hok.d) gX6_layPlan_X6_heightOf rfl (by decide +kernel) (by rw [hR]; exact ⟨Nat.le_of_ble_eq_true rfl, Nat.le_of_ble_eq_true rfl⟩) [0, 4, 6] 0 6 rfl rfl (by decide) rfl [o, ta, pp] rfl rfl rfl rfl (Nat.le_of_ble_eq_true rfl) dX6_layPlan_44 ⟨Nat.zero_le _, Nat.zero_le _⟩ (fun H locs hw => ?_)
    have hw : g_W D A s [(o, .inr (6, [u0, u1, u2, .ref xa, u4, u5, u6, u7, u8, u9, u10, u11, u12, u13, u14, u15, u16, u17, u18, u19, u20, u21, u22, u23, u24, u25, u26, .ref wa, .ref la, .ref ta, .int ks, .int kn, .float kh, u33, u34, .ref sa])), (xa, .inl (E 0, 12, .inl (g_tv 0))), (wa, .inl (E 0, 3, .inl (wnF nw x S))), (la, .inl (E 1, 4, .inr (.inr (.inl gp)))), (ta, .inl (E 1, 4, .inr (.inr (.inl (amP (sD S) (aiF (sF S) (eS nw x S) (g_tv 1 0)) (sF S) 4))))), (sa, .inl (E 0, 9, .inl (g_tv 1))), (pp, .inl (E 0, 29, .inl (pgF S))), (ff, .inl (E 1, 5, .inr (.inr (.inl (fl5 S)))))] H locs := hw
    refine W.eq (congrArg (fun z => F0 m 47 ls (.float z :: [])) (show (heF (sD S) (amP (sD S) (aiF (sF S) (eS nw x S) (g_tv 1 0)) (sF S) 4) 4 : UInt32) = heF (sD S) (aiF (sF S) (eS nw x S) (g_tv 1 0)) 4 from (he_am _ _ _ 4 (by omega)))) ?_
    refine lv_fstore (lv' := [(6, .float (heF (sD S) (aiF (sF S) (eS nw x S) (g_tv 1 0)) 4)), (5, .int (neF (sD S) (FP.i2f (sT S 1)) (aiF (sF S) (eS nw x S) (g_tv 1 0)) 4)), (4, .int 0), (3, .int 9), (0, .ref o), (1, .ref pp), (2, .ref ff)]) hx hb dX6_layPlan_47 hl (by decide) rfl (fun ls hl => ?_)
    refine lv_iload hx hb dX6_layPlan_49 (lv_at hl 2 rfl) ?_
    refine lv_if_eq (tgt := 82) hx hb dX6_layPlan_51 (by decide) (fun c_51 => ?_) (fun c_51 => absurd c_51 (by decide))
    refine lv_aload_n hx hb dX6_layPlan_82 rfl (lv_at hl 4 rfl) ?_
    refine lv_aload_n hx hb dX6_layPlan_83 rfl (lv_at hl 4 rfl) ?_
    refine g_get (TT := TX6) hc hw inX6_layPlan_X6 0 35 1 rfl rfl (by decide) rfl rfl dX6_layPlan_84 ?_
    refine lv_iload hx hb dX6_layPlan_87 (lv_at hl 2 rfl) ?_
    refine g_ild hc hw 5 0 rfl rfl (by omega) (by decide) dX6_layPlan_89 ?_
    refine g_put (TT := TX6) hc hw inX6_layPlan_X6 tyX6 tyX6_ok nmX6 0 30 4 rfl rfl (by decide) rfl rfl rfl rfl (Nat.le_of_ble_eq_true rfl) dX6_layPlan_90 (fun H locs hw => ?_)
    have hw : g_W D A s [(o, .inr (6, [u0, u1, u2, .ref xa, u4, u5, u6, u7, u8, u9, u10, u11, u12, u13, u14, u15, u16, u17, u18, u19, u20, u21, u22, u23, u24, u25, u26, .ref wa, .ref la, .ref ta, .int (g_tv 1 0), .int kn, .float kh, u33, u34, .ref sa])), (xa, .inl (E 0, 12, .inl (g_tv 0))), (wa, .inl (E 0, 3, .inl (wnF nw x S))), (la, .inl (E 1, 4, .inr (.inr (.inl gp)))), (ta, .inl (E 1, 4, .inr (.inr (.inl (amP (sD S) (aiF (sF S) (eS nw x S) (g_tv 1 0)) (sF S) 4))))), (sa, .inl (E 0, 9, .inl (g_tv 1))), (pp, .inl (E 0, 29, .inl (pgF S))), (ff, .inl (E 1, 5, .inr (.inr (.inl (fl5 S)))))] H locs := hw
    refine lv_aload_n hx hb dX6_layPlan_93 rfl (lv_at hl 4 rfl) ?_
    refine lv_iload hx hb dX6_layPlan_94 (lv_at hl 1 rfl) ?_
    refine g_put (TT := TX6) hc hw inX6_layPlan_X6 tyX6 tyX6_ok nmX6 0 31 2 rfl rfl (by decide) rfl rfl rfl rfl (Nat.le_of_ble_eq_true rfl) dX6_layPlan_96 (fun H locs hw => ?_)
    have hw : g_W D A s [(o, .inr (6, [u0, u1, u2, .ref xa, u4, u5, u6, u7, u8, u9, u10, u11, u12, u13, u14, u15, u16, u17, u18, u19, u20, u21, u22, u23, u24, u25, u26, .ref wa, .ref la, .ref ta, .int (g_tv 1 0), .int (neF (sD S) (FP.i2f (sT S 1)) (aiF (sF S) (eS nw x S) (g_tv 1 0)) 4), .float kh, u33, u34, .ref sa])), (xa, .inl (E 0, 12, .inl (g_tv 0))), (wa, .inl (E 0, 3, .inl (wnF nw x S))), (la, .inl (E 1, 4, .inr (.inr (.inl gp)))), (ta, .inl (E 1, 4, .inr (.inr (.inl (amP (sD S) (aiF (sF S) (eS nw x S) (g_tv 1 0)) (sF S) 4))))), (sa, .inl (E 0, 9, .inl (g_tv 1))), (pp, .inl (E 0, 29, .inl (pgF S))), (ff, .inl (E 1, 5, .inr (.inr (.inl (fl5 S)))))] H locs := hw
    refine lv_aload_n hx hb dX6_layPlan_99 rfl (lv_at hl 4 rfl) ?_
    refine lv_fload hx hb dX6_layPlan_100 (lv_at hl 0 rfl) ?_
    refine g_put (TT := TX6) hc hw inX6_layPlan_X6 tyX6 tyX6_ok nmX6 0 32 3 rfl rfl (by decide) rfl rfl rfl rfl (Nat.le_of_ble_eq_true rfl) dX6_layPlan_102 (fun H locs hw => ?_)
    have hw : g_W D A s [(o, .inr (6, [u0, u1, u2, .ref xa, u4, u5, u6, u7, u8, u9, u10, u11, u12, u13, u14, u15, u16, u17, u18, u19, u20, u21, u22, u23, u24, u25, u26, .ref wa, .ref la, .ref ta, .int (g_tv 1 0), .int (neF (sD S) (FP.i2f (sT S 1)) (aiF (sF S) (eS nw x S) (g_tv 1 0)) 4), .float (heF (sD S) (aiF (sF S) (eS nw x S) (g_tv 1 0)) 4), u33, u34, .ref sa])), (xa, .inl (E 0, 12, .inl (g_tv 0))), (wa, .inl (E 0, 3, .inl (wnF nw x S))), (la, .inl (E 1, 4, .inr (.inr (.inl gp)))), (ta, .inl (E 1, 4, .inr (.inr (.inl (amP (sD S) (aiF (sF S) (eS nw x S) (g_tv 1 0)) (sF S) 4))))), (sa, .inl (E 0, 9, .inl (g_tv 1))), (pp, .inl (E 0, 29, .inl (pgF S))), (ff, .inl (E 1, 5, .inr (.inr (.inl (fl5 S)))))] H locs := hw
    refine lv_iconst (v := 0) hx hb dX6_layPlan_105 (by decide) ?_
    refine lv_istore (lv' := [(7, .int 0), (6, .float (heF (sD S) (aiF (sF S) (eS nw x S) (g_tv 1 0)) 4)), (5, .int (neF (sD S) (FP.i2f (sT S 1)) (aiF (sF S) (eS nw x S) (g_tv 1 0)) 4)), (4, .int 0), (3, .int 9), (0, .ref o), (1, .ref pp), (2, .ref ff)]) hx hb dX6_layPlan_106 hl (by decide) rfl (fun ls hl => ?_)
    have J108 : ∀ (k9 : Nat) (i7 : Nat), i7 + k9 = 4 → ∀ (H : Heap) (locs : List Loc) (ls : Array Slot), g_W D A s [(o, .inr (6, [u0, u1, u2, .ref xa, u4, u5, u6, u7, u8, u9, u10, u11, u12, u13, u14, u15, u16, u17, u18, u19, u20, u21, u22, u23, u24, u25, u26, .ref wa, .ref la, .ref ta, .int (g_tv 1 0), .int (neF (sD S) (FP.i2f (sT S 1)) (aiF (sF S) (eS nw x S) (g_tv 1 0)) 4), .float (heF (sD S) (aiF (sF S) (eS nw x S) (g_tv 1 0)) 4), u33, u34, .ref sa])), (xa, .inl (E 0, 12, .inl (g_tv 0))), (wa, .inl (E 0, 3, .inl (wnF nw x S))), (la, .inl (E 1, 4, .inr (.inr (.inl (cpF (amP (sD S) (aiF (sF S) (eS nw x S) (g_tv 1 0)) (sF S) 4) (gp) i7))))), (ta, .inl (E 1, 4, .inr (.inr (.inl (amP (sD S) (aiF (sF S) (eS nw x S) (g_tv 1 0)) (sF S) 4))))), (sa, .inl (E 0, 9, .inl (g_tv 1))), (pp, .inl (E 0, 29, .inl (pgF S))), (ff, .inl (E 1, 5, .inr (.inr (.inl (fl5 S)))))] H locs → lv_has ls 8 [(0, .ref o), (1, .ref pp), (2, .ref ff), (3, .int 9), (4, .int 0), (5, .int (neF (sD S) (FP.i2f (sT S 1)) (aiF (sF S) (eS nw x S) (g_tv 1 0)) 4)), (6, .float (heF (sD S) (aiF (sF S) (eS nw x S) (g_tv 1 0)) 4)), (7, .int (nI i7))] → W p l e R s m args below meth c H locs 0 0 Q (F0 m 108 ls []) := by
      intro k9
      induction k9 with
      | zero =>
        intro i7 h9   H locs ls hw hl
        have h9 : i7 = 4 := h9
        subst h9
        refine lv_iload hx hb dX6_layPlan_108 (lv_at hl 7 rfl) ?_
        refine lv_iconst (v := 4) hx hb dX6_layPlan_110 (by decide) ?_
        refine lv_icmp_ge (tgt := 134) hx hb dX6_layPlan_111 (by decide) (fun c_111 => ?_) (fun c_111 => absurd (by first | exact Int32.le_refl _ | decide) c_111)
        have hw := g_reF (q0 := 3) (g := amP (sD S) (aiF (sF S) (eS nw x S) (g_tv 1 0)) (sF S) 4) hw rfl (cpF_n _ _ 4)
        have hw : g_W D A s [(o, .inr (6, [u0, u1, u2, .ref xa, u4, u5, u6, u7, u8, u9, u10, u11, u12, u13, u14, u15, u16, u17, u18, u19, u20, u21, u22, u23, u24, u25, u26, .ref wa, .ref la, .ref ta, .int (g_tv 1 0), .int (neF (sD S) (FP.i2f (sT S 1)) (aiF (sF S) (eS nw x S) (g_tv 1 0)) 4), .float (heF (sD S) (aiF (sF S) (eS nw x S) (g_tv 1 0)) 4), u33, u34, .ref sa])), (xa, .inl (E 0, 12, .inl (g_tv 0))), (wa, .inl (E 0, 3, .inl (wnF nw x S))), (la, .inl (E 1, 4, .inr (.inr (.inl (amP (sD S) (aiF (sF S) (eS nw x S) (g_tv 1 0)) (sF S) 4))))), (ta, .inl (E 1, 4, .inr (.inr (.inl (amP (sD S) (aiF (sF S) (eS nw x S) (g_tv 1 0)) (sF S) 4))))), (sa, .inl (E 0, 9, .inl (g_tv 1))), (pp, .inl (E 0, 29, .inl (pgF S))), (ff, .inl (E 1, 5, .inr (.inr (.inl (fl5 S)))))] H locs := hw
        refine lv_iinc (v := 1) (lv' := [(4, .int 1), (0, .ref o), (1, .ref pp), (2, .ref ff), (3, .int 9), (5, .int (neF (sD S) (FP.i2f (sT S 1)) (aiF (sF S) (eS nw x S) (g_tv 1 0)) 4)), (6, .float (heF (sD S) (aiF (sF S) (eS nw x S) (g_tv 1 0)) 4)), (7, .int (nI 4))]) hx hb dX6_layPlan_134 hl (k := 4) rfl (by decide) (by decide) rfl (fun ls hl => ?_)
        refine lv_goto (tgt := 16) hx hb dX6_layPlan_137 (by decide) ?_
        have J16 : ∀ (k9 : Nat) (i : Nat), i + k9 = 8 → ∀ (H : Heap) (locs : List Loc) (ls : Array Slot), g_W D A s [(o, .inr (6, [u0, u1, u2, .ref xa, u4, u5, u6, u7, u8, u9, u10, u11, u12, u13, u14, u15, u16, u17, u18, u19, u20, u21, u22, u23, u24, u25, u26, .ref wa, .ref la, .ref ta, .int (bs i), .int (neF (sD S) (FP.i2f (sT S 1)) (aiF (sF S) (eS nw x S) (bs i)) 4), .float (heF (sD S) (aiF (sF S) (eS nw x S) (bs i)) 4), u33, u34, .ref sa])), (xa, .inl (E 0, 12, .inl (g_tv 0))), (wa, .inl (E 0, 3, .inl (wnF nw x S))), (la, .inl (E 1, 4, .inr (.inr (.inl (amP (sD S) (aiF (sF S) (eS nw x S) (bs i)) (sF S) 4))))), (ta, .inl (E 1, 4, .inr (.inr (.inl (amP (sD S) (aiF (sF S) (eS nw x S) (g_tv 1 i)) (sF S) 4))))), (sa, .inl (E 0, 9, .inl (g_tv 1))), (pp, .inl (E 0, 29, .inl (pgF S))), (ff, .inl (E 1, 5, .inr (.inr (.inl (fl5 S)))))] H locs → lv_has ls 8 [(0, .ref o), (1, .ref pp), (2, .ref ff), (3, .int 9), (4, .int (nI (i + 1)))] → W p l e R s m args below meth c H locs 0 0 Q (F0 m 16 ls []) := by
          intro k9
          induction k9 with
          | zero =>
            intro i h9   H locs ls hw hl
            have h9 : i = 8 := h9
            subst h9
            refine lv_iload hx hb dX6_layPlan_16 (lv_at hl 4 rfl) ?_
            refine lv_iload_n hx hb dX6_layPlan_18 rfl (lv_at hl 3 rfl) ?_
            refine lv_icmp_ge (tgt := 140) hx hb dX6_layPlan_19 (by decide) (fun c_19 => ?_) (fun c_19 => absurd (by decide) c_19)
            exact g_vret hQ hc hw hr rfl (by rw [show cS nw x S = bs 8 from (by rw [hbs]; exact if_pos hd0), show lpN (sD S) = 8 from if_pos hd0]) dX6_layPlan_140
          | succ k9 ih =>
            intro i h9   H locs ls hw hl
            have h9b : i < 8 := by omega
            refine lv_iload hx hb dX6_layPlan_16 (lv_at hl 4 rfl) ?_
            refine lv_iload_n hx hb dX6_layPlan_18 rfl (lv_at hl 3 rfl) ?_
            refine lv_icmp_ge (tgt := 140) hx hb dX6_layPlan_19 (by decide) (fun c_19 => absurd c_19 (nI_ge (show i + 1 < 9 by omega) (by decide))) (fun c_19 => ?_)
            refine lv_aload_n hx hb dX6_layPlan_22 rfl (lv_at hl 0 rfl) ?_
            refine lv_aload_n hx hb dX6_layPlan_23 rfl (lv_at hl 1 rfl) ?_
            refine lv_aload_n hx hb dX6_layPlan_24 rfl (lv_at hl 2 rfl) ?_
            refine lv_aload_n hx hb dX6_layPlan_25 rfl (lv_at hl 0 rfl) ?_
            refine g_get (TT := TX6) hc hw inX6_layPlan_X6 0 35 1 rfl rfl (by decide) rfl rfl dX6_layPlan_26 ?_
            refine lv_iload hx hb dX6_layPlan_29 (lv_at hl 4 rfl) ?_
            refine g_ild hc hw 5 (i + 1) rfl rfl (by omega) (by decide) dX6_layPlan_31 ?_
            refine g_cV (As := [.ref pp, .ref ff, .int (g_tv 1 (i + 1))]) (n := 3) (rest := []) (wc := [(o, .inr (6, [u0, u1, u2, .ref xa, u4, u5, u6, u7, u8, u9, u10, u11, u12, u13, u14, u15, u16, u17, u18, u19, u20, u21, u22, u23, u24, u25, u26, .ref wa, .ref la, .ref ta, .int (bs i), .int (neF (sD S) (FP.i2f (sT S 1)) (aiF (sF S) (eS nw x S) (bs i)) 4), .float (heF (sD S) (aiF (sF S) (eS nw x S) (bs i)) 4), u33, u34, .ref sa])), (xa, .inl (E 0, 12, .inl (g_tv 0))), (wa, .inl (E 0, 3, .inl (wnF nw x S))), (ta, .inl (E 1, 4, .inr (.inr (.inl (amP (sD S) (aiF (sF S) (eS nw x S) (g_tv 1 i)) (sF S) 4))))), (pp, .inl (E 0, 29, .inl (pgF S))), (ff, .inl (E 1, 5, .inr (.inr (.inl (fl5 S)))))]) (w1 := [(o, .inr (6, [u0, u1, u2, .ref xa, u4, u5, u6, u7, u8, u9, u10, u11, u12, u13, u14, u15, u16, u17, u18, u19, u20, u21, u22, u23, u24, u25, u26, .ref wa, .ref la, .ref ta, .int (bs i), .int (neF (sD S) (FP.i2f (sT S 1)) (aiF (sF S) (eS nw x S) (bs i)) 4), .float (heF (sD S) (aiF (sF S) (eS nw x S) (bs i)) 4), u33, u34, .ref sa])), (xa, .inl (E 0, 12, .inl (g_tv 0))), (wa, .inl (E 0, 3, .inl (wnF nw x S))), (ta, .inl (E 1, 4, .inr (.inr (.inl (amP (sD S) (aiF (sF S) (eS nw x S) (g_tv 1 (i + 1))) (sF S) 4))))), (pp, .inl (E 0, 29, .inl (pgF S))), (ff, .inl (E 1, 5, .inr (.inr (.inl (fl5 S)))))]) (bytes := cX6_trySpeeds) (maxL := 7) (ret := none) hc hw hl.1 (m_X6_trySpeeds (l := l) (D := D) (E := E) (T := T) o xa wa ta pp ff nw B u0 u1 u2 u4 u5 u6 u7 u8 u9 u10 u11 u12 u13 u14 u15 u16 u17 u18 u19 u20 u21 u22 u23 u24 u25 u26 (.ref la) (.int (bs i)) (.int (neF (sD S) (FP.i2f (sT S 1)) (aiF (sF S) (eS nw x S) (bs i)) 4)) (.float (heF (sD S) (aiF (sF S) (eS nw x S) (bs i)) 4)) u33 u34 (.ref sa) x S (amP (sD S) (aiF (sF S) (eS nw x S) (g_tv 1 i)) (sF S) 4) (g_tv 1 (i + 1)) hok hp) gX6_layPlan_X6_trySpeeds rfl (by decide +kernel) (by rw [hR]; exact ⟨Nat.le_of_ble_eq_true rfl, Nat.le_of_ble_eq_true rfl⟩) [0, 1, 2, 4, 6, 7] 0 6 rfl rfl (by decide) rfl [o, xa, wa, ta, pp, ff] rfl rfl rfl rfl (Nat.le_of_ble_eq_true rfl) dX6_layPlan_32 ⟨Nat.zero_le _, Nat.zero_le _⟩ (fun H locs hw => ?_)
            have hw : g_W D A s [(o, .inr (6, [u0, u1, u2, .ref xa, u4, u5, u6, u7, u8, u9, u10, u11, u12, u13, u14, u15, u16, u17, u18, u19, u20, u21, u22, u23, u24, u25, u26, .ref wa, .ref la, .ref ta, .int (bs i), .int (neF (sD S) (FP.i2f (sT S 1)) (aiF (sF S) (eS nw x S) (bs i)) 4), .float (heF (sD S) (aiF (sF S) (eS nw x S) (bs i)) 4), u33, u34, .ref sa])), (xa, .inl (E 0, 12, .inl (g_tv 0))), (wa, .inl (E 0, 3, .inl (wnF nw x S))), (la, .inl (E 1, 4, .inr (.inr (.inl (amP (sD S) (aiF (sF S) (eS nw x S) (bs i)) (sF S) 4))))), (ta, .inl (E 1, 4, .inr (.inr (.inl (amP (sD S) (aiF (sF S) (eS nw x S) (g_tv 1 (i + 1))) (sF S) 4))))), (sa, .inl (E 0, 9, .inl (g_tv 1))), (pp, .inl (E 0, 29, .inl (pgF S))), (ff, .inl (E 1, 5, .inr (.inr (.inl (fl5 S)))))] H locs := hw
            refine lv_aload_n hx hb dX6_layPlan_35 rfl (lv_at hl 0 rfl) ?_
            refine lv_aload_n hx hb dX6_layPlan_36 rfl (lv_at hl 1 rfl) ?_
            refine g_cV (As := [.ref pp]) (n := 1) (rest := []) (wc := [(o, .inr (6, [u0, u1, u2, .ref xa, u4, u5, u6, u7, u8, u9, u10, u11, u12, u13, u14, u15, u16, u17, u18, u19, u20, u21, u22, u23, u24, u25, u26, .ref wa, .ref la, .ref ta, .int (bs i), .int (neF (sD S) (FP.i2f (sT S 1)) (aiF (sF S) (eS nw x S) (bs i)) 4), .float (heF (sD S) (aiF (sF S) (eS nw x S) (bs i)) 4), u33, u34, .ref sa])), (ta, .inl (E 1, 4, .inr (.inr (.inl (amP (sD S) (aiF (sF S) (eS nw x S) (g_tv 1 (i + 1))) (sF S) 4))))), (pp, .inl (E 0, 29, .inl (pgF S)))]) (w1 := [(o, .inr (6, [u0, u1, u2, .ref xa, u4, u5, u6, u7, u8, u9, u10, u11, u12, u13, u14, u15, u16, u17, u18, u19, u20, u21, u22, u23, u24, u25, u26, .ref wa, .ref la, .ref ta, .int (bs i), .int (neF (sD S) (FP.i2f (sT S 1)) (aiF (sF S) (eS nw x S) (bs i)) 4), .float (heF (sD S) (aiF (sF S) (eS nw x S) (bs i)) 4), u33, u34, .ref sa])), (ta, .inl (E 1, 4, .inr (.inr (.inl (amP (sD S) (aiF (sF S) (eS nw x S) (g_tv 1 (i + 1))) (sF S) 4))))), (pp, .inl (E 0, 29, .inl (pgF S)))]) (bytes := cX6_nearOf) (maxL := 4) (ret := (some .int)) hc hw hl.1 (m_X6_nearOf (l := l) (D := D) (E := E) (T := T) o ta pp u0 u1 u2 (.ref xa) u4 u5 u6 u7 u8 u9 u10 u11 u12 u13 u14 u15 u16 u17 u18 u19 u20 u21 u22 u23 u24 u25 u26 (.ref wa) (.ref la) (.int (bs i)) (.int (neF (sD S) (FP.i2f (sT S 1)) (aiF (sF S) (eS nw x S) (bs i)) 4)) (.float (heF (sD S) (aiF (sF S) (eS nw x S) (bs i)) 4)) u33 u34 (.ref sa) S (amP (sD S) (aiF (sF S) (eS nw x S) (g_tv 1 (i + 1))) (sF S) 4) hok.d) gX6_layPlan_X6_nearOf rfl (by decide +kernel) (by rw [hR]; exact ⟨Nat.le_of_ble_eq_true rfl, Nat.le_of_ble_eq_true rfl⟩) [0, 4, 6] 0 6 rfl rfl (by decide) rfl [o, ta, pp] rfl rfl rfl rfl (Nat.le_of_ble_eq_true rfl) dX6_layPlan_37 ⟨Nat.zero_le _, Nat.zero_le _⟩ (fun H locs hw => ?_)
            have hw : g_W D A s [(o, .inr (6, [u0, u1, u2, .ref xa, u4, u5, u6, u7, u8, u9, u10, u11, u12, u13, u14, u15, u16, u17, u18, u19, u20, u21, u22, u23, u24, u25, u26, .ref wa, .ref la, .ref ta, .int (bs i), .int (neF (sD S) (FP.i2f (sT S 1)) (aiF (sF S) (eS nw x S) (bs i)) 4), .float (heF (sD S) (aiF (sF S) (eS nw x S) (bs i)) 4), u33, u34, .ref sa])), (xa, .inl (E 0, 12, .inl (g_tv 0))), (wa, .inl (E 0, 3, .inl (wnF nw x S))), (la, .inl (E 1, 4, .inr (.inr (.inl (amP (sD S) (aiF (sF S) (eS nw x S) (bs i)) (sF S) 4))))), (ta, .inl (E 1, 4, .inr (.inr (.inl (amP (sD S) (aiF (sF S) (eS nw x S) (g_tv 1 (i + 1))) (sF S) 4))))), (sa, .inl (E 0, 9, .inl (g_tv 1))), (pp, .inl (E 0, 29, .inl (pgF S))), (ff, .inl (E 1, 5, .inr (.inr (.inl (fl5 S)))))] H locs := hw
            refine W.eq (congrArg (fun z => F0 m 40 ls (.int z :: [])) (show (neF (sD S) (FP.i2f (sT S 1)) (amP (sD S) (aiF (sF S) (eS nw x S) (g_tv 1 (i + 1))) (sF S) 4) 4 : Int32) = neF (sD S) (FP.i2f (sT S 1)) (aiF (sF S) (eS nw x S) (g_tv 1 (i + 1))) 4 from (ne_am _ _ _ _ 4 (by omega)))) ?_
            refine lv_istore (lv' := [(5, .int (neF (sD S) (FP.i2f (sT S 1)) (aiF (sF S) (eS nw x S) (g_tv 1 (i + 1))) 4)), (0, .ref o), (1, .ref pp), (2, .ref ff), (3, .int 9), (4, .int (nI (i + 1)))]) hx hb dX6_layPlan_40 hl (by decide) rfl (fun ls hl => ?_)
            refine lv_aload_n hx hb dX6_layPlan_42 rfl (lv_at hl 1 rfl) ?_
            refine lv_aload_n hx hb dX6_layPlan_43 rfl (lv_at hl 2 rfl) ?_
            refine g_cV (As := [.ref pp]) (n := 1) (rest := []) (wc := [(o, .inr (6, [u0, u1, u2, .ref xa, u4, u5, u6, u7, u8, u9, u10, u11, u12, u13, u14, u15, u16, u17, u18, u19, u20, u21, u22, u23, u24, u25, u26, .ref wa, .ref la, .ref ta, .int (bs i), .int (neF (sD S) (FP.i2f (sT S 1)) (aiF (sF S) (eS nw x S) (bs i)) 4), .float (heF (sD S) (aiF (sF S) (eS nw x S) (bs i)) 4), u33, u34, .ref sa])), (ta, .inl (E 1, 4, .inr (.inr (.inl (amP (sD S) (aiF (sF S) (eS nw x S) (g_tv 1 (i + 1))) (sF S) 4))))), (pp, .inl (E 0, 29, .inl (pgF S)))]) (w1 := [(o, .inr (6, [u0, u1, u2, .ref xa, u4, u5, u6, u7, u8, u9, u10, u11, u12, u13, u14, u15, u16, u17, u18, u19, u20, u21, u22, u23, u24, u25, u26, .ref wa, .ref la, .ref ta, .int (bs i), .int (neF (sD S) (FP.i2f (sT S 1)) (aiF (sF S) (eS nw x S) (bs i)) 4), .float (heF (sD S) (aiF (sF S) (eS nw x S) (bs i)) 4), u33, u34, .ref sa])), (ta, .inl (E 1, 4, .inr (.inr (.inl (amP (sD S) (aiF (sF S) (eS nw x S) (g_tv 1 (i + 1))) (sF S) 4))))), (pp, .inl (E 0, 29, .inl (pgF S)))]) (bytes := cX6_heightOf) (maxL := 4) (ret := (some .float)) hc hw hl.1 (m_X6_heightOf (l := l) (D := D) (E := E) (T := T) o ta pp u0 u1 u2 (.ref xa) u4 u5 u6 u7 u8 u9 u10 u11 u12 u13 u14 u15 u16 u17 u18 u19 u20 u21 u22 u23 u24 u25 u26 (.ref wa) (.ref la) (.int (bs i)) (.int (neF (sD S) (FP.i2f (sT S 1)) (aiF (sF S) (eS nw x S) (bs i)) 4)) (.float (heF (sD S) (aiF (sF S) (eS nw x S) (bs i)) 4)) u33 u34 (.ref sa) S (amP (sD S) (aiF (sF S) (eS nw x S) (g_tv 1 (i + 1))) (sF S) 4) hok.d) gX6_layPlan_X6_heightOf rfl (by decide +kernel) (by rw [hR]; exact ⟨Nat.le_of_ble_eq_true rfl, Nat.le_of_ble_eq_true rfl⟩) [0, 4, 6] 0 6 rfl rfl (by decide) rfl [o, ta, pp] rfl rfl rfl rfl (Nat.le_of_ble_eq_true rfl) dX6_layPlan_44 ⟨Nat.zero_le _, Nat.zero_le _⟩ (fun H locs hw => ?_)
            have hw : g_W D A s [(o, .inr (6, [u0, u1, u2, .ref xa, u4, u5, u6, u7, u8, u9, u10, u11, u12, u13, u14, u15, u16, u17, u18, u19, u20, u21, u22, u23, u24, u25, u26, .ref wa, .ref la, .ref ta, .int (bs i), .int (neF (sD S) (FP.i2f (sT S 1)) (aiF (sF S) (eS nw x S) (bs i)) 4), .float (heF (sD S) (aiF (sF S) (eS nw x S) (bs i)) 4), u33, u34, .ref sa])), (xa, .inl (E 0, 12, .inl (g_tv 0))), (wa, .inl (E 0, 3, .inl (wnF nw x S))), (la, .inl (E 1, 4, .inr (.inr (.inl (amP (sD S) (aiF (sF S) (eS nw x S) (bs i)) (sF S) 4))))), (ta, .inl (E 1, 4, .inr (.inr (.inl (amP (sD S) (aiF (sF S) (eS nw x S) (g_tv 1 (i + 1))) (sF S) 4))))), (sa, .inl (E 0, 9, .inl (g_tv 1))), (pp, .inl (E 0, 29, .inl (pgF S))), (ff, .inl (E 1, 5, .inr (.inr (.inl (fl5 S)))))] H locs := hw
            refine W.eq (congrArg (fun z => F0 m 47 ls (.float z :: [])) (show (heF (sD S) (amP (sD S) (aiF (sF S) (eS nw x S) (g_tv 1 (i + 1))) (sF S) 4) 4 : UInt32) = heF (sD S) (aiF (sF S) (eS nw x S) (g_tv 1 (i + 1))) 4 from (he_am _ _ _ 4 (by omega)))) ?_
            refine lv_fstore (lv' := [(6, .float (heF (sD S) (aiF (sF S) (eS nw x S) (g_tv 1 (i + 1))) 4)), (5, .int (neF (sD S) (FP.i2f (sT S 1)) (aiF (sF S) (eS nw x S) (g_tv 1 (i + 1))) 4)), (0, .ref o), (1, .ref pp), (2, .ref ff), (3, .int 9), (4, .int (nI (i + 1)))]) hx hb dX6_layPlan_47 hl (by decide) rfl (fun ls hl => ?_)
            refine lv_iload hx hb dX6_layPlan_49 (lv_at hl 6 rfl) ?_
            refine lv_if_eq (tgt := 82) hx hb dX6_layPlan_51 (by decide) (fun c_51 => absurd c_51 (nI_ne0 (by omega) (by omega))) (fun c_51 => ?_)
            refine lv_iload hx hb dX6_layPlan_54 (lv_at hl 1 rfl) ?_
            refine lv_aload_n hx hb dX6_layPlan_56 rfl (lv_at hl 2 rfl) ?_
            refine g_get (TT := TX6) hc hw inX6_layPlan_X6 0 31 2 rfl rfl (by decide) rfl rfl dX6_layPlan_57 ?_
            refine lv_icmp_lt (tgt := 82) hx hb dX6_layPlan_60 (by decide) (fun c_60 => ?_) (fun c_60 => ?_)
            · skip
              refine lv_aload_n hx hb dX6_layPlan_82 rfl (lv_at hl 2 rfl) ?_
              refine lv_aload_n hx hb dX6_layPlan_83 rfl (lv_at hl 2 rfl) ?_
              refine g_get (TT := TX6) hc hw inX6_layPlan_X6 0 35 1 rfl rfl (by decide) rfl rfl dX6_layPlan_84 ?_
              refine lv_iload hx hb dX6_layPlan_87 (lv_at hl 6 rfl) ?_
              refine g_ild hc hw 5 (i + 1) rfl rfl (by omega) (by decide) dX6_layPlan_89 ?_
              refine g_put (TT := TX6) hc hw inX6_layPlan_X6 tyX6 tyX6_ok nmX6 0 30 4 rfl rfl (by decide) rfl rfl rfl rfl (Nat.le_of_ble_eq_true rfl) dX6_layPlan_90 (fun H locs hw => ?_)
              have hw : g_W D A s [(o, .inr (6, [u0, u1, u2, .ref xa, u4, u5, u6, u7, u8, u9, u10, u11, u12, u13, u14, u15, u16, u17, u18, u19, u20, u21, u22, u23, u24, u25, u26, .ref wa, .ref la, .ref ta, .int (g_tv 1 (i + 1)), .int (neF (sD S) (FP.i2f (sT S 1)) (aiF (sF S) (eS nw x S) (bs i)) 4), .float (heF (sD S) (aiF (sF S) (eS nw x S) (bs i)) 4), u33, u34, .ref sa])), (xa, .inl (E 0, 12, .inl (g_tv 0))), (wa, .inl (E 0, 3, .inl (wnF nw x S))), (la, .inl (E 1, 4, .inr (.inr (.inl (amP (sD S) (aiF (sF S) (eS nw x S) (bs i)) (sF S) 4))))), (ta, .inl (E 1, 4, .inr (.inr (.inl (amP (sD S) (aiF (sF S) (eS nw x S) (g_tv 1 (i + 1))) (sF S) 4))))), (sa, .inl (E 0, 9, .inl (g_tv 1))), (pp, .inl (E 0, 29, .inl (pgF S))), (ff, .inl (E 1, 5, .inr (.inr (.inl (fl5 S)))))] H locs := hw
              refine lv_aload_n hx hb dX6_layPlan_93 rfl (lv_at hl 2 rfl) ?_
              refine lv_iload hx hb dX6_layPlan_94 (lv_at hl 1 rfl) ?_
              refine g_put (TT := TX6) hc hw inX6_layPlan_X6 tyX6 tyX6_ok nmX6 0 31 2 rfl rfl (by decide) rfl rfl rfl rfl (Nat.le_of_ble_eq_true rfl) dX6_layPlan_96 (fun H locs hw => ?_)
              have hw : g_W D A s [(o, .inr (6, [u0, u1, u2, .ref xa, u4, u5, u6, u7, u8, u9, u10, u11, u12, u13, u14, u15, u16, u17, u18, u19, u20, u21, u22, u23, u24, u25, u26, .ref wa, .ref la, .ref ta, .int (g_tv 1 (i + 1)), .int (neF (sD S) (FP.i2f (sT S 1)) (aiF (sF S) (eS nw x S) (g_tv 1 (i + 1))) 4), .float (heF (sD S) (aiF (sF S) (eS nw x S) (bs i)) 4), u33, u34, .ref sa])), (xa, .inl (E 0, 12, .inl (g_tv 0))), (wa, .inl (E 0, 3, .inl (wnF nw x S))), (la, .inl (E 1, 4, .inr (.inr (.inl (amP (sD S) (aiF (sF S) (eS nw x S) (bs i)) (sF S) 4))))), (ta, .inl (E 1, 4, .inr (.inr (.inl (amP (sD S) (aiF (sF S) (eS nw x S) (g_tv 1 (i + 1))) (sF S) 4))))), (sa, .inl (E 0, 9, .inl (g_tv 1))), (pp, .inl (E 0, 29, .inl (pgF S))), (ff, .inl (E 1, 5, .inr (.inr (.inl (fl5 S)))))] H locs := hw
              refine lv_aload_n hx hb dX6_layPlan_99 rfl (lv_at hl 2 rfl) ?_
              refine lv_fload hx hb dX6_layPlan_100 (lv_at hl 0 rfl) ?_
              refine g_put (TT := TX6) hc hw inX6_layPlan_X6 tyX6 tyX6_ok nmX6 0 32 3 rfl rfl (by decide) rfl rfl rfl rfl (Nat.le_of_ble_eq_true rfl) dX6_layPlan_102 (fun H locs hw => ?_)
              have hw : g_W D A s [(o, .inr (6, [u0, u1, u2, .ref xa, u4, u5, u6, u7, u8, u9, u10, u11, u12, u13, u14, u15, u16, u17, u18, u19, u20, u21, u22, u23, u24, u25, u26, .ref wa, .ref la, .ref ta, .int (g_tv 1 (i + 1)), .int (neF (sD S) (FP.i2f (sT S 1)) (aiF (sF S) (eS nw x S) (g_tv 1 (i + 1))) 4), .float (heF (sD S) (aiF (sF S) (eS nw x S) (g_tv 1 (i + 1))) 4), u33, u34, .ref sa])), (xa, .inl (E 0, 12, .inl (g_tv 0))), (wa, .inl (E 0, 3, .inl (wnF nw x S))), (la, .inl (E 1, 4, .inr (.inr (.inl (amP (sD S) (aiF (sF S) (eS nw x S) (bs i)) (sF S) 4))))), (ta, .inl (E 1, 4, .inr (.inr (.inl (amP (sD S) (aiF (sF S) (eS nw x S) (g_tv 1 (i + 1))) (sF S) 4))))), (sa, .inl (E 0, 9, .inl (g_tv 1))), (pp, .inl (E 0, 29, .inl (pgF S))), (ff, .inl (E 1, 5, .inr (.inr (.inl (fl5 S)))))] H locs := hw
              refine lv_iconst (v := 0) hx hb dX6_layPlan_105 (by decide) ?_
              refine lv_istore (lv' := [(7, .int 0), (6, .float (heF (sD S) (aiF (sF S) (eS nw x S) (g_tv 1 (i + 1))) 4)), (5, .int (neF (sD S) (FP.i2f (sT S 1)) (aiF (sF S) (eS nw x S) (g_tv 1 (i + 1))) 4)), (0, .ref o), (1, .ref pp), (2, .ref ff), (3, .int 9), (4, .int (nI (i + 1)))]) hx hb dX6_layPlan_106 hl (by decide) rfl (fun ls hl => ?_)
              have J108 : ∀ (k9 : Nat) (i7 : Nat), i7 + k9 = 4 → ∀ (H : Heap) (locs : List Loc) (ls : Array Slot), g_W D A s [(o, .inr (6, [u0, u1, u2, .ref xa, u4, u5, u6, u7, u8, u9, u10, u11, u12, u13, u14, u15, u16, u17, u18, u19, u20, u21, u22, u23, u24, u25, u26, .ref wa, .ref la, .ref ta, .int (g_tv 1 (i + 1)), .int (neF (sD S) (FP.i2f (sT S 1)) (aiF (sF S) (eS nw x S) (g_tv 1 (i + 1))) 4), .float (heF (sD S) (aiF (sF S) (eS nw x S) (g_tv 1 (i + 1))) 4), u33, u34, .ref sa])), (xa, .inl (E 0, 12, .inl (g_tv 0))), (wa, .inl (E 0, 3, .inl (wnF nw x S))), (la, .inl (E 1, 4, .inr (.inr (.inl (cpF (amP (sD S) (aiF (sF S) (eS nw x S) (g_tv 1 (i + 1))) (sF S) 4) (amP (sD S) (aiF (sF S) (eS nw x S) (bs i)) (sF S) 4) i7))))), (ta, .inl (E 1, 4, .inr (.inr (.inl (amP (sD S) (aiF (sF S) (eS nw x S) (g_tv 1 (i + 1))) (sF S) 4))))), (sa, .inl (E 0, 9, .inl (g_tv 1))), (pp, .inl (E 0, 29, .inl (pgF S))), (ff, .inl (E 1, 5, .inr (.inr (.inl (fl5 S)))))] H locs → lv_has ls 8 [(0, .ref o), (1, .ref pp), (2, .ref ff), (3, .int 9), (4, .int (nI (i + 1))), (5, .int (neF (sD S) (FP.i2f (sT S 1)) (aiF (sF S) (eS nw x S) (g_tv 1 (i + 1))) 4)), (6, .float (heF (sD S) (aiF (sF S) (eS nw x S) (g_tv 1 (i + 1))) 4)), (7, .int (nI i7))] → W p l e R s m args below meth c H locs 0 0 Q (F0 m 108 ls []) := by
                intro k9
                induction k9 with
                | zero =>
                  intro i7 h9   H locs ls hw hl
                  have h9 : i7 = 4 := h9
                  subst h9
                  refine lv_iload hx hb dX6_layPlan_108 (lv_at hl 7 rfl) ?_
                  refine lv_iconst (v := 4) hx hb dX6_layPlan_110 (by decide) ?_
                  refine lv_icmp_ge (tgt := 134) hx hb dX6_layPlan_111 (by decide) (fun c_111 => ?_) (fun c_111 => absurd (by first | exact Int32.le_refl _ | decide) c_111)
                  have hw := g_reF (q0 := 3) (g := amP (sD S) (aiF (sF S) (eS nw x S) (g_tv 1 (i + 1))) (sF S) 4) hw rfl (cpF_n _ _ 4)
                  have hw : g_W D A s [(o, .inr (6, [u0, u1, u2, .ref xa, u4, u5, u6, u7, u8, u9, u10, u11, u12, u13, u14, u15, u16, u17, u18, u19, u20, u21, u22, u23, u24, u25, u26, .ref wa, .ref la, .ref ta, .int (g_tv 1 (i + 1)), .int (neF (sD S) (FP.i2f (sT S 1)) (aiF (sF S) (eS nw x S) (g_tv 1 (i + 1))) 4), .float (heF (sD S) (aiF (sF S) (eS nw x S) (g_tv 1 (i + 1))) 4), u33, u34, .ref sa])), (xa, .inl (E 0, 12, .inl (g_tv 0))), (wa, .inl (E 0, 3, .inl (wnF nw x S))), (la, .inl (E 1, 4, .inr (.inr (.inl (amP (sD S) (aiF (sF S) (eS nw x S) (g_tv 1 (i + 1))) (sF S) 4))))), (ta, .inl (E 1, 4, .inr (.inr (.inl (amP (sD S) (aiF (sF S) (eS nw x S) (g_tv 1 (i + 1))) (sF S) 4))))), (sa, .inl (E 0, 9, .inl (g_tv 1))), (pp, .inl (E 0, 29, .inl (pgF S))), (ff, .inl (E 1, 5, .inr (.inr (.inl (fl5 S)))))] H locs := hw
                  refine lv_iinc (v := nI ((i + 1) + 1)) (lv' := [(4, .int (nI ((i + 1) + 1))), (0, .ref o), (1, .ref pp), (2, .ref ff), (3, .int 9), (5, .int (neF (sD S) (FP.i2f (sT S 1)) (aiF (sF S) (eS nw x S) (g_tv 1 (i + 1))) 4)), (6, .float (heF (sD S) (aiF (sF S) (eS nw x S) (g_tv 1 (i + 1))) 4)), (7, .int (nI 4))]) hx hb dX6_layPlan_134 hl (k := 4) rfl (n_inc1 rfl) (by decide) rfl (fun ls hl => ?_)
                  refine lv_goto (tgt := 16) hx hb dX6_layPlan_137 (by decide) ?_
                  have hw : g_W D A s [(o, .inr (6, [u0, u1, u2, .ref xa, u4, u5, u6, u7, u8, u9, u10, u11, u12, u13, u14, u15, u16, u17, u18, u19, u20, u21, u22, u23, u24, u25, u26, .ref wa, .ref la, .ref ta, .int (bs (i + 1)), .int (neF (sD S) (FP.i2f (sT S 1)) (aiF (sF S) (eS nw x S) (bs (i + 1))) 4), .float (heF (sD S) (aiF (sF S) (eS nw x S) (bs (i + 1))) 4), u33, u34, .ref sa])), (xa, .inl (E 0, 12, .inl (g_tv 0))), (wa, .inl (E 0, 3, .inl (wnF nw x S))), (la, .inl (E 1, 4, .inr (.inr (.inl (amP (sD S) (aiF (sF S) (eS nw x S) (bs (i + 1))) (sF S) 4))))), (ta, .inl (E 1, 4, .inr (.inr (.inl (amP (sD S) (aiF (sF S) (eS nw x S) (g_tv 1 (i + 1))) (sF S) 4))))), (sa, .inl (E 0, 9, .inl (g_tv 1))), (pp, .inl (E 0, 29, .inl (pgF S))), (ff, .inl (E 1, 5, .inr (.inr (.inl (fl5 S)))))] H locs := by rw [← (hbT i (Or.inl c_60))]; exact hw
                  exact ih (i + 1) (by omega)   _ _ _ hw (lv_sub hl [1, 2, 3, 4, 0] rfl)
                | succ k9 ih =>
                  intro i7 h9   H locs ls hw hl
                  have h9b : i7 < 4 := by omega
                  refine lv_iload hx hb dX6_layPlan_108 (lv_at hl 7 rfl) ?_
                  refine lv_iconst (v := 4) hx hb dX6_layPlan_110 (by decide) ?_
                  refine lv_icmp_ge (tgt := 134) hx hb dX6_layPlan_111 (by decide) (fun c_111 => absurd c_111 (nI_ge h9b (by decide))) (fun c_111 => ?_)
                  refine lv_aload_n hx hb dX6_layPlan_114 rfl (lv_at hl 0 rfl) ?_
                  refine g_get (TT := TX6) hc hw inX6_layPlan_X6 0 28 5 rfl rfl (by decide) rfl rfl dX6_layPlan_115 ?_
                  refine lv_iload hx hb dX6_layPlan_118 (lv_at hl 7 rfl) ?_
                  refine lv_aload_n hx hb dX6_layPlan_120 rfl (lv_at hl 0 rfl) ?_
                  refine g_get (TT := TX6) hc hw inX6_layPlan_X6 0 29 6 rfl rfl (by decide) rfl rfl dX6_layPlan_121 ?_
                  refine lv_iload hx hb dX6_layPlan_124 (lv_at hl 7 rfl) ?_
                  refine g_fld hc hw 4 i7 rfl rfl (by omega) (by decide) dX6_layPlan_126 ?_
                  refine g_fst hc hw 3 i7 rfl rfl (by omega) (by decide) dX6_layPlan_127 (fun H locs hw => ?_)
                  have hw : g_W D A s [(o, .inr (6, [u0, u1, u2, .ref xa, u4, u5, u6, u7, u8, u9, u10, u11, u12, u13, u14, u15, u16, u17, u18, u19, u20, u21, u22, u23, u24, u25, u26, .ref wa, .ref la, .ref ta, .int (g_tv 1 (i + 1)), .int (neF (sD S) (FP.i2f (sT S 1)) (aiF (sF S) (eS nw x S) (g_tv 1 (i + 1))) 4), .float (heF (sD S) (aiF (sF S) (eS nw x S) (g_tv 1 (i + 1))) 4), u33, u34, .ref sa])), (xa, .inl (E 0, 12, .inl (g_tv 0))), (wa, .inl (E 0, 3, .inl (wnF nw x S))), (la, .inl (E 1, 4, .inr (.inr (.inl (vf_upd (cpF (amP (sD S) (aiF (sF S) (eS nw x S) (g_tv 1 (i + 1))) (sF S) 4) (amP (sD S) (aiF (sF S) (eS nw x S) (bs i)) (sF S) 4) i7) i7 ((amP (sD S) (aiF (sF S) (eS nw x S) (g_tv 1 (i + 1))) (sF S) 4) i7)))))), (ta, .inl (E 1, 4, .inr (.inr (.inl (amP (sD S) (aiF (sF S) (eS nw x S) (g_tv 1 (i + 1))) (sF S) 4))))), (sa, .inl (E 0, 9, .inl (g_tv 1))), (pp, .inl (E 0, 29, .inl (pgF S))), (ff, .inl (E 1, 5, .inr (.inr (.inl (fl5 S)))))] H locs := hw
                  refine lv_iinc (v := nI (i7 + 1)) (lv' := [(7, .int (nI (i7 + 1))), (0, .ref o), (1, .ref pp), (2, .ref ff), (3, .int 9), (4, .int (nI (i + 1))), (5, .int (neF (sD S) (FP.i2f (sT S 1)) (aiF (sF S) (eS nw x S) (g_tv 1 (i + 1))) 4)), (6, .float (heF (sD S) (aiF (sF S) (eS nw x S) (g_tv 1 (i + 1))) 4))]) hx hb dX6_layPlan_128 hl (k := 7) rfl (n_inc1 rfl) (by decide) rfl (fun ls hl => ?_)
                  refine lv_goto (tgt := 108) hx hb dX6_layPlan_131 (by decide) ?_
                  have hw : g_W D A s [(o, .inr (6, [u0, u1, u2, .ref xa, u4, u5, u6, u7, u8, u9, u10, u11, u12, u13, u14, u15, u16, u17, u18, u19, u20, u21, u22, u23, u24, u25, u26, .ref wa, .ref la, .ref ta, .int (g_tv 1 (i + 1)), .int (neF (sD S) (FP.i2f (sT S 1)) (aiF (sF S) (eS nw x S) (g_tv 1 (i + 1))) 4), .float (heF (sD S) (aiF (sF S) (eS nw x S) (g_tv 1 (i + 1))) 4), u33, u34, .ref sa])), (xa, .inl (E 0, 12, .inl (g_tv 0))), (wa, .inl (E 0, 3, .inl (wnF nw x S))), (la, .inl (E 1, 4, .inr (.inr (.inl (cpF (amP (sD S) (aiF (sF S) (eS nw x S) (g_tv 1 (i + 1))) (sF S) 4) (amP (sD S) (aiF (sF S) (eS nw x S) (bs i)) (sF S) 4) (i7 + 1)))))), (ta, .inl (E 1, 4, .inr (.inr (.inl (amP (sD S) (aiF (sF S) (eS nw x S) (g_tv 1 (i + 1))) (sF S) 4))))), (sa, .inl (E 0, 9, .inl (g_tv 1))), (pp, .inl (E 0, 29, .inl (pgF S))), (ff, .inl (E 1, 5, .inr (.inr (.inl (fl5 S)))))] H locs := by
                    have e3 : (vf_upd (cpF (amP (sD S) (aiF (sF S) (eS nw x S) (g_tv 1 (i + 1))) (sF S) 4) (amP (sD S) (aiF (sF S) (eS nw x S) (bs i)) (sF S) 4) i7) i7 ((amP (sD S) (aiF (sF S) (eS nw x S) (g_tv 1 (i + 1))) (sF S) 4) i7)) = (cpF (amP (sD S) (aiF (sF S) (eS nw x S) (g_tv 1 (i + 1))) (sF S) 4) (amP (sD S) (aiF (sF S) (eS nw x S) (bs i)) (sF S) 4) (i7 + 1)) := by exact cpF_s _ rfl
                    rw [e3] at hw
                    exact hw
                  exact ih (i7 + 1) (by omega)   _ _ _ hw (lv_sub hl [1, 2, 3, 4, 5, 6, 7, 0] rfl)
              have hw : g_W D A s [(o, .inr (6, [u0, u1, u2, .ref xa, u4, u5, u6, u7, u8, u9, u10, u11, u12, u13, u14, u15, u16, u17, u18, u19, u20, u21, u22, u23, u24, u25, u26, .ref wa, .ref la, .ref ta, .int (g_tv 1 (i + 1)), .int (neF (sD S) (FP.i2f (sT S 1)) (aiF (sF S) (eS nw x S) (g_tv 1 (i + 1))) 4), .float (heF (sD S) (aiF (sF S) (eS nw x S) (g_tv 1 (i + 1))) 4), u33, u34, .ref sa])), (xa, .inl (E 0, 12, .inl (g_tv 0))), (wa, .inl (E 0, 3, .inl (wnF nw x S))), (la, .inl (E 1, 4, .inr (.inr (.inl (cpF (amP (sD S) (aiF (sF S) (eS nw x S) (g_tv 1 (i + 1))) (sF S) 4) (amP (sD S) (aiF (sF S) (eS nw x S) (bs i)) (sF S) 4) 0))))), (ta, .inl (E 1, 4, .inr (.inr (.inl (amP (sD S) (aiF (sF S) (eS nw x S) (g_tv 1 (i + 1))) (sF S) 4))))), (sa, .inl (E 0, 9, .inl (g_tv 1))), (pp, .inl (E 0, 29, .inl (pgF S))), (ff, .inl (E 1, 5, .inr (.inr (.inl (fl5 S)))))] H locs := by
                have e3 : (amP (sD S) (aiF (sF S) (eS nw x S) (bs i)) (sF S) 4) = (cpF (amP (sD S) (aiF (sF S) (eS nw x S) (g_tv 1 (i + 1))) (sF S) 4) (amP (sD S) (aiF (sF S) (eS nw x S) (bs i)) (sF S) 4) 0) := by exact cpF_0 _ _
                rw [e3] at hw
                exact hw
              exact J108 4 0 (by omega)   _ _ _ hw (lv_sub hl [3, 4, 5, 6, 7, 2, 1, 0] rfl)
            · skip
              refine lv_iload hx hb dX6_layPlan_63 (lv_at hl 1 rfl) ?_
              refine lv_aload_n hx hb dX6_layPlan_65 rfl (lv_at hl 2 rfl) ?_
              refine g_get (TT := TX6) hc hw inX6_layPlan_X6 0 31 2 rfl rfl (by decide) rfl rfl dX6_layPlan_66 ?_
              refine lv_icmp_ne (tgt := 134) hx hb dX6_layPlan_69 (by decide) (fun c_69 => ?_) (fun c_69 => ?_)
              · skip
                refine lv_iinc (v := nI ((i + 1) + 1)) (lv' := [(4, .int (nI ((i + 1) + 1))), (6, .float (heF (sD S) (aiF (sF S) (eS nw x S) (g_tv 1 (i + 1))) 4)), (5, .int (neF (sD S) (FP.i2f (sT S 1)) (aiF (sF S) (eS nw x S) (g_tv 1 (i + 1))) 4)), (0, .ref o), (1, .ref pp), (2, .ref ff), (3, .int 9)]) hx hb dX6_layPlan_134 hl (k := 6) rfl (n_inc1 rfl) (by decide) rfl (fun ls hl => ?_)
                refine lv_goto (tgt := 16) hx hb dX6_layPlan_137 (by decide) ?_
                have hw : g_W D A s [(o, .inr (6, [u0, u1, u2, .ref xa, u4, u5, u6, u7, u8, u9, u10, u11, u12, u13, u14, u15, u16, u17, u18, u19, u20, u21, u22, u23, u24, u25, u26, .ref wa, .ref la, .ref ta, .int (bs (i + 1)), .int (neF (sD S) (FP.i2f (sT S 1)) (aiF (sF S) (eS nw x S) (bs (i + 1))) 4), .float (heF (sD S) (aiF (sF S) (eS nw x S) (bs (i + 1))) 4), u33, u34, .ref sa])), (xa, .inl (E 0, 12, .inl (g_tv 0))), (wa, .inl (E 0, 3, .inl (wnF nw x S))), (la, .inl (E 1, 4, .inr (.inr (.inl (amP (sD S) (aiF (sF S) (eS nw x S) (bs (i + 1))) (sF S) 4))))), (ta, .inl (E 1, 4, .inr (.inr (.inl (amP (sD S) (aiF (sF S) (eS nw x S) (g_tv 1 (i + 1))) (sF S) 4))))), (sa, .inl (E 0, 9, .inl (g_tv 1))), (pp, .inl (E 0, 29, .inl (pgF S))), (ff, .inl (E 1, 5, .inr (.inr (.inl (fl5 S)))))] H locs := by rw [← (hbN i (fun q => q.elim c_60 (fun r => c_69 r.1)))]; exact hw
                exact ih (i + 1) (by omega)   _ _ _ hw (lv_sub hl [3, 4, 5, 6, 0] rfl)
              · skip
                refine lv_fload hx hb dX6_layPlan_72 (lv_at hl 0 rfl) ?_
                refine lv_aload_n hx hb dX6_layPlan_74 rfl (lv_at hl 2 rfl) ?_
                refine g_get (TT := TX6) hc hw inX6_layPlan_X6 0 32 3 rfl rfl (by decide) rfl rfl dX6_layPlan_75 ?_
                refine lv_fcmp hx hb dX6_layPlan_78 ?_
                refine lv_if_ge (tgt := 134) hx hb dX6_layPlan_79 (by decide) (fun c_79 => ?_) (fun c_79 => ?_)
                · skip
                  have k_79 := g_cgl c_79
                  refine lv_iinc (v := nI ((i + 1) + 1)) (lv' := [(4, .int (nI ((i + 1) + 1))), (6, .float (heF (sD S) (aiF (sF S) (eS nw x S) (g_tv 1 (i + 1))) 4)), (5, .int (neF (sD S) (FP.i2f (sT S 1)) (aiF (sF S) (eS nw x S) (g_tv 1 (i + 1))) 4)), (0, .ref o), (1, .ref pp), (2, .ref ff), (3, .int 9)]) hx hb dX6_layPlan_134 hl (k := 6) rfl (n_inc1 rfl) (by decide) rfl (fun ls hl => ?_)
                  refine lv_goto (tgt := 16) hx hb dX6_layPlan_137 (by decide) ?_
                  have hw : g_W D A s [(o, .inr (6, [u0, u1, u2, .ref xa, u4, u5, u6, u7, u8, u9, u10, u11, u12, u13, u14, u15, u16, u17, u18, u19, u20, u21, u22, u23, u24, u25, u26, .ref wa, .ref la, .ref ta, .int (bs (i + 1)), .int (neF (sD S) (FP.i2f (sT S 1)) (aiF (sF S) (eS nw x S) (bs (i + 1))) 4), .float (heF (sD S) (aiF (sF S) (eS nw x S) (bs (i + 1))) 4), u33, u34, .ref sa])), (xa, .inl (E 0, 12, .inl (g_tv 0))), (wa, .inl (E 0, 3, .inl (wnF nw x S))), (la, .inl (E 1, 4, .inr (.inr (.inl (amP (sD S) (aiF (sF S) (eS nw x S) (bs (i + 1))) (sF S) 4))))), (ta, .inl (E 1, 4, .inr (.inr (.inl (amP (sD S) (aiF (sF S) (eS nw x S) (g_tv 1 (i + 1))) (sF S) 4))))), (sa, .inl (E 0, 9, .inl (g_tv 1))), (pp, .inl (E 0, 29, .inl (pgF S))), (ff, .inl (E 1, 5, .inr (.inr (.inl (fl5 S)))))] H locs := by rw [← (hbN i (fun q => q.elim c_60 (fun r => Bool.false_ne_true (k_79.symm.trans r.2))))]; exact hw
                  exact ih (i + 1) (by omega)   _ _ _ hw (lv_sub hl [3, 4, 5, 6, 0] rfl)
                · skip
                  have k_79 := g_cgt c_79
                  refine lv_aload_n hx hb dX6_layPlan_82 rfl (lv_at hl 2 rfl) ?_
                  refine lv_aload_n hx hb dX6_layPlan_83 rfl (lv_at hl 2 rfl) ?_
                  refine g_get (TT := TX6) hc hw inX6_layPlan_X6 0 35 1 rfl rfl (by decide) rfl rfl dX6_layPlan_84 ?_
                  refine lv_iload hx hb dX6_layPlan_87 (lv_at hl 6 rfl) ?_
                  refine g_ild hc hw 5 (i + 1) rfl rfl (by omega) (by decide) dX6_layPlan_89 ?_
                  refine g_put (TT := TX6) hc hw inX6_layPlan_X6 tyX6 tyX6_ok nmX6 0 30 4 rfl rfl (by decide) rfl rfl rfl rfl (Nat.le_of_ble_eq_true rfl) dX6_layPlan_90 (fun H locs hw => ?_)
                  have hw : g_W D A s [(o, .inr (6, [u0, u1, u2, .ref xa, u4, u5, u6, u7, u8, u9, u10, u11, u12, u13, u14, u15, u16, u17, u18, u19, u20, u21, u22, u23, u24, u25, u26, .ref wa, .ref la, .ref ta, .int (g_tv 1 (i + 1)), .int (neF (sD S) (FP.i2f (sT S 1)) (aiF (sF S) (eS nw x S) (bs i)) 4), .float (heF (sD S) (aiF (sF S) (eS nw x S) (bs i)) 4), u33, u34, .ref sa])), (xa, .inl (E 0, 12, .inl (g_tv 0))), (wa, .inl (E 0, 3, .inl (wnF nw x S))), (la, .inl (E 1, 4, .inr (.inr (.inl (amP (sD S) (aiF (sF S) (eS nw x S) (bs i)) (sF S) 4))))), (ta, .inl (E 1, 4, .inr (.inr (.inl (amP (sD S) (aiF (sF S) (eS nw x S) (g_tv 1 (i + 1))) (sF S) 4))))), (sa, .inl (E 0, 9, .inl (g_tv 1))), (pp, .inl (E 0, 29, .inl (pgF S))), (ff, .inl (E 1, 5, .inr (.inr (.inl (fl5 S)))))] H locs := hw
                  refine lv_aload_n hx hb dX6_layPlan_93 rfl (lv_at hl 2 rfl) ?_
                  refine lv_iload hx hb dX6_layPlan_94 (lv_at hl 1 rfl) ?_
                  refine g_put (TT := TX6) hc hw inX6_layPlan_X6 tyX6 tyX6_ok nmX6 0 31 2 rfl rfl (by decide) rfl rfl rfl rfl (Nat.le_of_ble_eq_true rfl) dX6_layPlan_96 (fun H locs hw => ?_)
                  have hw : g_W D A s [(o, .inr (6, [u0, u1, u2, .ref xa, u4, u5, u6, u7, u8, u9, u10, u11, u12, u13, u14, u15, u16, u17, u18, u19, u20, u21, u22, u23, u24, u25, u26, .ref wa, .ref la, .ref ta, .int (g_tv 1 (i + 1)), .int (neF (sD S) (FP.i2f (sT S 1)) (aiF (sF S) (eS nw x S) (g_tv 1 (i + 1))) 4), .float (heF (sD S) (aiF (sF S) (eS nw x S) (bs i)) 4), u33, u34, .ref sa])), (xa, .inl (E 0, 12, .inl (g_tv 0))), (wa, .inl (E 0, 3, .inl (wnF nw x S))), (la, .inl (E 1, 4, .inr (.inr (.inl (amP (sD S) (aiF (sF S) (eS nw x S) (bs i)) (sF S) 4))))), (ta, .inl (E 1, 4, .inr (.inr (.inl (amP (sD S) (aiF (sF S) (eS nw x S) (g_tv 1 (i + 1))) (sF S) 4))))), (sa, .inl (E 0, 9, .inl (g_tv 1))), (pp, .inl (E 0, 29, .inl (pgF S))), (ff, .inl (E 1, 5, .inr (.inr (.inl (fl5 S)))))] H locs := hw
                  refine lv_aload_n hx hb dX6_layPlan_99 rfl (lv_at hl 2 rfl) ?_
                  refine lv_fload hx hb dX6_layPlan_100 (lv_at hl 0 rfl) ?_
                  refine g_put (TT := TX6) hc hw inX6_layPlan_X6 tyX6 tyX6_ok nmX6 0 32 3 rfl rfl (by decide) rfl rfl rfl rfl (Nat.le_of_ble_eq_true rfl) dX6_layPlan_102 (fun H locs hw => ?_)
                  have hw : g_W D A s [(o, .inr (6, [u0, u1, u2, .ref xa, u4, u5, u6, u7, u8, u9, u10, u11, u12, u13, u14, u15, u16, u17, u18, u19, u20, u21, u22, u23, u24, u25, u26, .ref wa, .ref la, .ref ta, .int (g_tv 1 (i + 1)), .int (neF (sD S) (FP.i2f (sT S 1)) (aiF (sF S) (eS nw x S) (g_tv 1 (i + 1))) 4), .float (heF (sD S) (aiF (sF S) (eS nw x S) (g_tv 1 (i + 1))) 4), u33, u34, .ref sa])), (xa, .inl (E 0, 12, .inl (g_tv 0))), (wa, .inl (E 0, 3, .inl (wnF nw x S))), (la, .inl (E 1, 4, .inr (.inr (.inl (amP (sD S) (aiF (sF S) (eS nw x S) (bs i)) (sF S) 4))))), (ta, .inl (E 1, 4, .inr (.inr (.inl (amP (sD S) (aiF (sF S) (eS nw x S) (g_tv 1 (i + 1))) (sF S) 4))))), (sa, .inl (E 0, 9, .inl (g_tv 1))), (pp, .inl (E 0, 29, .inl (pgF S))), (ff, .inl (E 1, 5, .inr (.inr (.inl (fl5 S)))))] H locs := hw
                  refine lv_iconst (v := 0) hx hb dX6_layPlan_105 (by decide) ?_
                  refine lv_istore (lv' := [(7, .int 0), (6, .float (heF (sD S) (aiF (sF S) (eS nw x S) (g_tv 1 (i + 1))) 4)), (5, .int (neF (sD S) (FP.i2f (sT S 1)) (aiF (sF S) (eS nw x S) (g_tv 1 (i + 1))) 4)), (0, .ref o), (1, .ref pp), (2, .ref ff), (3, .int 9), (4, .int (nI (i + 1)))]) hx hb dX6_layPlan_106 hl (by decide) rfl (fun ls hl => ?_)
                  have J108 : ∀ (k9 : Nat) (i7 : Nat), i7 + k9 = 4 → ∀ (H : Heap) (locs : List Loc) (ls : Array Slot), g_W D A s [(o, .inr (6, [u0, u1, u2, .ref xa, u4, u5, u6, u7, u8, u9, u10, u11, u12, u13, u14, u15, u16, u17, u18, u19, u20, u21, u22, u23, u24, u25, u26, .ref wa, .ref la, .ref ta, .int (g_tv 1 (i + 1)), .int (neF (sD S) (FP.i2f (sT S 1)) (aiF (sF S) (eS nw x S) (g_tv 1 (i + 1))) 4), .float (heF (sD S) (aiF (sF S) (eS nw x S) (g_tv 1 (i + 1))) 4), u33, u34, .ref sa])), (xa, .inl (E 0, 12, .inl (g_tv 0))), (wa, .inl (E 0, 3, .inl (wnF nw x S))), (la, .inl (E 1, 4, .inr (.inr (.inl (cpF (amP (sD S) (aiF (sF S) (eS nw x S) (g_tv 1 (i + 1))) (sF S) 4) (amP (sD S) (aiF (sF S) (eS nw x S) (bs i)) (sF S) 4) i7))))), (ta, .inl (E 1, 4, .inr (.inr (.inl (amP (sD S) (aiF (sF S) (eS nw x S) (g_tv 1 (i + 1))) (sF S) 4))))), (sa, .inl (E 0, 9, .inl (g_tv 1))), (pp, .inl (E 0, 29, .inl (pgF S))), (ff, .inl (E 1, 5, .inr (.inr (.inl (fl5 S)))))] H locs → lv_has ls 8 [(0, .ref o), (1, .ref pp), (2, .ref ff), (3, .int 9), (4, .int (nI (i + 1))), (5, .int (neF (sD S) (FP.i2f (sT S 1)) (aiF (sF S) (eS nw x S) (g_tv 1 (i + 1))) 4)), (6, .float (heF (sD S) (aiF (sF S) (eS nw x S) (g_tv 1 (i + 1))) 4)), (7, .int (nI i7))] → W p l e R s m args below meth c H locs 0 0 Q (F0 m 108 ls []) := by
                    intro k9
                    induction k9 with
                    | zero =>
                      intro i7 h9   H locs ls hw hl
                      have h9 : i7 = 4 := h9
                      subst h9
                      refine lv_iload hx hb dX6_layPlan_108 (lv_at hl 7 rfl) ?_
                      refine lv_iconst (v := 4) hx hb dX6_layPlan_110 (by decide) ?_
                      refine lv_icmp_ge (tgt := 134) hx hb dX6_layPlan_111 (by decide) (fun c_111 => ?_) (fun c_111 => absurd (by first | exact Int32.le_refl _ | decide) c_111)
                      have hw := g_reF (q0 := 3) (g := amP (sD S) (aiF (sF S) (eS nw x S) (g_tv 1 (i + 1))) (sF S) 4) hw rfl (cpF_n _ _ 4)
                      have hw : g_W D A s [(o, .inr (6, [u0, u1, u2, .ref xa, u4, u5, u6, u7, u8, u9, u10, u11, u12, u13, u14, u15, u16, u17, u18, u19, u20, u21, u22, u23, u24, u25, u26, .ref wa, .ref la, .ref ta, .int (g_tv 1 (i + 1)), .int (neF (sD S) (FP.i2f (sT S 1)) (aiF (sF S) (eS nw x S) (g_tv 1 (i + 1))) 4), .float (heF (sD S) (aiF (sF S) (eS nw x S) (g_tv 1 (i + 1))) 4), u33, u34, .ref sa])), (xa, .inl (E 0, 12, .inl (g_tv 0))), (wa, .inl (E 0, 3, .inl (wnF nw x S))), (la, .inl (E 1, 4, .inr (.inr (.inl (amP (sD S) (aiF (sF S) (eS nw x S) (g_tv 1 (i + 1))) (sF S) 4))))), (ta, .inl (E 1, 4, .inr (.inr (.inl (amP (sD S) (aiF (sF S) (eS nw x S) (g_tv 1 (i + 1))) (sF S) 4))))), (sa, .inl (E 0, 9, .inl (g_tv 1))), (pp, .inl (E 0, 29, .inl (pgF S))), (ff, .inl (E 1, 5, .inr (.inr (.inl (fl5 S)))))] H locs := hw
                      refine lv_iinc (v := nI ((i + 1) + 1)) (lv' := [(4, .int (nI ((i + 1) + 1))), (0, .ref o), (1, .ref pp), (2, .ref ff), (3, .int 9), (5, .int (neF (sD S) (FP.i2f (sT S 1)) (aiF (sF S) (eS nw x S) (g_tv 1 (i + 1))) 4)), (6, .float (heF (sD S) (aiF (sF S) (eS nw x S) (g_tv 1 (i + 1))) 4)), (7, .int (nI 4))]) hx hb dX6_layPlan_134 hl (k := 4) rfl (n_inc1 rfl) (by decide) rfl (fun ls hl => ?_)
                      refine lv_goto (tgt := 16) hx hb dX6_layPlan_137 (by decide) ?_
                      have hw : g_W D A s [(o, .inr (6, [u0, u1, u2, .ref xa, u4, u5, u6, u7, u8, u9, u10, u11, u12, u13, u14, u15, u16, u17, u18, u19, u20, u21, u22, u23, u24, u25, u26, .ref wa, .ref la, .ref ta, .int (bs (i + 1)), .int (neF (sD S) (FP.i2f (sT S 1)) (aiF (sF S) (eS nw x S) (bs (i + 1))) 4), .float (heF (sD S) (aiF (sF S) (eS nw x S) (bs (i + 1))) 4), u33, u34, .ref sa])), (xa, .inl (E 0, 12, .inl (g_tv 0))), (wa, .inl (E 0, 3, .inl (wnF nw x S))), (la, .inl (E 1, 4, .inr (.inr (.inl (amP (sD S) (aiF (sF S) (eS nw x S) (bs (i + 1))) (sF S) 4))))), (ta, .inl (E 1, 4, .inr (.inr (.inl (amP (sD S) (aiF (sF S) (eS nw x S) (g_tv 1 (i + 1))) (sF S) 4))))), (sa, .inl (E 0, 9, .inl (g_tv 1))), (pp, .inl (E 0, 29, .inl (pgF S))), (ff, .inl (E 1, 5, .inr (.inr (.inl (fl5 S)))))] H locs := by rw [← (hbT i (Or.inr ⟨c_69, k_79⟩))]; exact hw
                      exact ih (i + 1) (by omega)   _ _ _ hw (lv_sub hl [1, 2, 3, 4, 0] rfl)
                    | succ k9 ih =>
                      intro i7 h9   H locs ls hw hl
                      have h9b : i7 < 4 := by omega
                      refine lv_iload hx hb dX6_layPlan_108 (lv_at hl 7 rfl) ?_
                      refine lv_iconst (v := 4) hx hb dX6_layPlan_110 (by decide) ?_
                      refine lv_icmp_ge (tgt := 134) hx hb dX6_layPlan_111 (by decide) (fun c_111 => absurd c_111 (nI_ge h9b (by decide))) (fun c_111 => ?_)
                      refine lv_aload_n hx hb dX6_layPlan_114 rfl (lv_at hl 0 rfl) ?_
                      refine g_get (TT := TX6) hc hw inX6_layPlan_X6 0 28 5 rfl rfl (by decide) rfl rfl dX6_layPlan_115 ?_
                      refine lv_iload hx hb dX6_layPlan_118 (lv_at hl 7 rfl) ?_
                      refine lv_aload_n hx hb dX6_layPlan_120 rfl (lv_at hl 0 rfl) ?_
                      refine g_get (TT := TX6) hc hw inX6_layPlan_X6 0 29 6 rfl rfl (by decide) rfl rfl dX6_layPlan_121 ?_
                      refine lv_iload hx hb dX6_layPlan_124 (lv_at hl 7 rfl) ?_
                      refine g_fld hc hw 4 i7 rfl rfl (by omega) (by decide) dX6_layPlan_126 ?_
                      refine g_fst hc hw 3 i7 rfl rfl (by omega) (by decide) dX6_layPlan_127 (fun H locs hw => ?_)
                      have hw : g_W D A s [(o, .inr (6, [u0, u1, u2, .ref xa, u4, u5, u6, u7, u8, u9, u10, u11, u12, u13, u14, u15, u16, u17, u18, u19, u20, u21, u22, u23, u24, u25, u26, .ref wa, .ref la, .ref ta, .int (g_tv 1 (i + 1)), .int (neF (sD S) (FP.i2f (sT S 1)) (aiF (sF S) (eS nw x S) (g_tv 1 (i + 1))) 4), .float (heF (sD S) (aiF (sF S) (eS nw x S) (g_tv 1 (i + 1))) 4), u33, u34, .ref sa])), (xa, .inl (E 0, 12, .inl (g_tv 0))), (wa, .inl (E 0, 3, .inl (wnF nw x S))), (la, .inl (E 1, 4, .inr (.inr (.inl (vf_upd (cpF (amP (sD S) (aiF (sF S) (eS nw x S) (g_tv 1 (i + 1))) (sF S) 4) (amP (sD S) (aiF (sF S) (eS nw x S) (bs i)) (sF S) 4) i7) i7 ((amP (sD S) (aiF (sF S) (eS nw x S) (g_tv 1 (i + 1))) (sF S) 4) i7)))))), (ta, .inl (E 1, 4, .inr (.inr (.inl (amP (sD S) (aiF (sF S) (eS nw x S) (g_tv 1 (i + 1))) (sF S) 4))))), (sa, .inl (E 0, 9, .inl (g_tv 1))), (pp, .inl (E 0, 29, .inl (pgF S))), (ff, .inl (E 1, 5, .inr (.inr (.inl (fl5 S)))))] H locs := hw
                      refine lv_iinc (v := nI (i7 + 1)) (lv' := [(7, .int (nI (i7 + 1))), (0, .ref o), (1, .ref pp), (2, .ref ff), (3, .int 9), (4, .int (nI (i + 1))), (5, .int (neF (sD S) (FP.i2f (sT S 1)) (aiF (sF S) (eS nw x S) (g_tv 1 (i + 1))) 4)), (6, .float (heF (sD S) (aiF (sF S) (eS nw x S) (g_tv 1 (i + 1))) 4))]) hx hb dX6_layPlan_128 hl (k := 7) rfl (n_inc1 rfl) (by decide) rfl (fun ls hl => ?_)
                      refine lv_goto (tgt := 108) hx hb dX6_layPlan_131 (by decide) ?_
                      have hw : g_W D A s [(o, .inr (6, [u0, u1, u2, .ref xa, u4, u5, u6, u7, u8, u9, u10, u11, u12, u13, u14, u15, u16, u17, u18, u19, u20, u21, u22, u23, u24, u25, u26, .ref wa, .ref la, .ref ta, .int (g_tv 1 (i + 1)), .int (neF (sD S) (FP.i2f (sT S 1)) (aiF (sF S) (eS nw x S) (g_tv 1 (i + 1))) 4), .float (heF (sD S) (aiF (sF S) (eS nw x S) (g_tv 1 (i + 1))) 4), u33, u34, .ref sa])), (xa, .inl (E 0, 12, .inl (g_tv 0))), (wa, .inl (E 0, 3, .inl (wnF nw x S))), (la, .inl (E 1, 4, .inr (.inr (.inl (cpF (amP (sD S) (aiF (sF S) (eS nw x S) (g_tv 1 (i + 1))) (sF S) 4) (amP (sD S) (aiF (sF S) (eS nw x S) (bs i)) (sF S) 4) (i7 + 1)))))), (ta, .inl (E 1, 4, .inr (.inr (.inl (amP (sD S) (aiF (sF S) (eS nw x S) (g_tv 1 (i + 1))) (sF S) 4))))), (sa, .inl (E 0, 9, .inl (g_tv 1))), (pp, .inl (E 0, 29, .inl (pgF S))), (ff, .inl (E 1, 5, .inr (.inr (.inl (fl5 S)))))] H locs := by
                        have e3 : (vf_upd (cpF (amP (sD S) (aiF (sF S) (eS nw x S) (g_tv 1 (i + 1))) (sF S) 4) (amP (sD S) (aiF (sF S) (eS nw x S) (bs i)) (sF S) 4) i7) i7 ((amP (sD S) (aiF (sF S) (eS nw x S) (g_tv 1 (i + 1))) (sF S) 4) i7)) = (cpF (amP (sD S) (aiF (sF S) (eS nw x S) (g_tv 1 (i + 1))) (sF S) 4) (amP (sD S) (aiF (sF S) (eS nw x S) (bs i)) (sF S) 4) (i7 + 1)) := by exact cpF_s _ rfl
                        rw [e3] at hw
                        exact hw
                      exact ih (i7 + 1) (by omega)   _ _ _ hw (lv_sub hl [1, 2, 3, 4, 5, 6, 7, 0] rfl)
                  have hw : g_W D A s [(o, .inr (6, [u0, u1, u2, .ref xa, u4, u5, u6, u7, u8, u9, u10, u11, u12, u13, u14, u15, u16, u17, u18, u19, u20, u21, u22, u23, u24, u25, u26, .ref wa, .ref la, .ref ta, .int (g_tv 1 (i + 1)), .int (neF (sD S) (FP.i2f (sT S 1)) (aiF (sF S) (eS nw x S) (g_tv 1 (i + 1))) 4), .float (heF (sD S) (aiF (sF S) (eS nw x S) (g_tv 1 (i + 1))) 4), u33, u34, .ref sa])), (xa, .inl (E 0, 12, .inl (g_tv 0))), (wa, .inl (E 0, 3, .inl (wnF nw x S))), (la, .inl (E 1, 4, .inr (.inr (.inl (cpF (amP (sD S) (aiF (sF S) (eS nw x S) (g_tv 1 (i + 1))) (sF S) 4) (amP (sD S) (aiF (sF S) (eS nw x S) (bs i)) (sF S) 4) 0))))), (ta, .inl (E 1, 4, .inr (.inr (.inl (amP (sD S) (aiF (sF S) (eS nw x S) (g_tv 1 (i + 1))) (sF S) 4))))), (sa, .inl (E 0, 9, .inl (g_tv 1))), (pp, .inl (E 0, 29, .inl (pgF S))), (ff, .inl (E 1, 5, .inr (.inr (.inl (fl5 S)))))] H locs := by
                    have e3 : (amP (sD S) (aiF (sF S) (eS nw x S) (bs i)) (sF S) 4) = (cpF (amP (sD S) (aiF (sF S) (eS nw x S) (g_tv 1 (i + 1))) (sF S) 4) (amP (sD S) (aiF (sF S) (eS nw x S) (bs i)) (sF S) 4) 0) := by exact cpF_0 _ _
                    rw [e3] at hw
                    exact hw
                  exact J108 4 0 (by omega)   _ _ _ hw (lv_sub hl [3, 4, 5, 6, 7, 2, 1, 0] rfl)
        have hw : g_W D A s [(o, .inr (6, [u0, u1, u2, .ref xa, u4, u5, u6, u7, u8, u9, u10, u11, u12, u13, u14, u15, u16, u17, u18, u19, u20, u21, u22, u23, u24, u25, u26, .ref wa, .ref la, .ref ta, .int (bs 0), .int (neF (sD S) (FP.i2f (sT S 1)) (aiF (sF S) (eS nw x S) (bs 0)) 4), .float (heF (sD S) (aiF (sF S) (eS nw x S) (bs 0)) 4), u33, u34, .ref sa])), (xa, .inl (E 0, 12, .inl (g_tv 0))), (wa, .inl (E 0, 3, .inl (wnF nw x S))), (la, .inl (E 1, 4, .inr (.inr (.inl (amP (sD S) (aiF (sF S) (eS nw x S) (bs 0)) (sF S) 4))))), (ta, .inl (E 1, 4, .inr (.inr (.inl (amP (sD S) (aiF (sF S) (eS nw x S) (g_tv 1 0)) (sF S) 4))))), (sa, .inl (E 0, 9, .inl (g_tv 1))), (pp, .inl (E 0, 29, .inl (pgF S))), (ff, .inl (E 1, 5, .inr (.inr (.inl (fl5 S)))))] H locs := by rw [← hb0]; exact hw
        exact J16 8 0 (by omega)   _ _ _ hw (lv_sub hl [1, 2, 3, 4, 0] rfl)
      | succ k9 ih =>
        intro i7 h9   H locs ls hw hl
        have h9b : i7 < 4 := by omega
        refine lv_iload hx hb dX6_layPlan_108 (lv_at hl 7 rfl) ?_
        refine lv_iconst (v := 4) hx hb dX6_layPlan_110 (by decide) ?_
        refine lv_icmp_ge (tgt := 134) hx hb dX6_layPlan_111 (by decide) (fun c_111 => absurd c_111 (nI_ge h9b (by decide))) (fun c_111 => ?_)
        refine lv_aload_n hx hb dX6_layPlan_114 rfl (lv_at hl 0 rfl) ?_
        refine g_get (TT := TX6) hc hw inX6_layPlan_X6 0 28 5 rfl rfl (by decide) rfl rfl dX6_layPlan_115 ?_
        refine lv_iload hx hb dX6_layPlan_118 (lv_at hl 7 rfl) ?_
        refine lv_aload_n hx hb dX6_layPlan_120 rfl (lv_at hl 0 rfl) ?_
        refine g_get (TT := TX6) hc hw inX6_layPlan_X6 0 29 6 rfl rfl (by decide) rfl rfl dX6_layPlan_121 ?_
        refine lv_iload hx hb dX6_layPlan_124 (lv_at hl 7 rfl) ?_
        refine g_fld hc hw 4 i7 rfl rfl (by omega) (by decide) dX6_layPlan_126 ?_
        refine g_fst hc hw 3 i7 rfl rfl (by omega) (by decide) dX6_layPlan_127 (fun H locs hw => ?_)
        have hw : g_W D A s [(o, .inr (6, [u0, u1, u2, .ref xa, u4, u5, u6, u7, u8, u9, u10, u11, u12, u13, u14, u15, u16, u17, u18, u19, u20, u21, u22, u23, u24, u25, u26, .ref wa, .ref la, .ref ta, .int (g_tv 1 0), .int (neF (sD S) (FP.i2f (sT S 1)) (aiF (sF S) (eS nw x S) (g_tv 1 0)) 4), .float (heF (sD S) (aiF (sF S) (eS nw x S) (g_tv 1 0)) 4), u33, u34, .ref sa])), (xa, .inl (E 0, 12, .inl (g_tv 0))), (wa, .inl (E 0, 3, .inl (wnF nw x S))), (la, .inl (E 1, 4, .inr (.inr (.inl (vf_upd (cpF (amP (sD S) (aiF (sF S) (eS nw x S) (g_tv 1 0)) (sF S) 4) (gp) i7) i7 ((amP (sD S) (aiF (sF S) (eS nw x S) (g_tv 1 0)) (sF S) 4) i7)))))), (ta, .inl (E 1, 4, .inr (.inr (.inl (amP (sD S) (aiF (sF S) (eS nw x S) (g_tv 1 0)) (sF S) 4))))), (sa, .inl (E 0, 9, .inl (g_tv 1))), (pp, .inl (E 0, 29, .inl (pgF S))), (ff, .inl (E 1, 5, .inr (.inr (.inl (fl5 S)))))] H locs := hw
        refine lv_iinc (v := nI (i7 + 1)) (lv' := [(7, .int (nI (i7 + 1))), (0, .ref o), (1, .ref pp), (2, .ref ff), (3, .int 9), (4, .int 0), (5, .int (neF (sD S) (FP.i2f (sT S 1)) (aiF (sF S) (eS nw x S) (g_tv 1 0)) 4)), (6, .float (heF (sD S) (aiF (sF S) (eS nw x S) (g_tv 1 0)) 4))]) hx hb dX6_layPlan_128 hl (k := 7) rfl (n_inc1 rfl) (by decide) rfl (fun ls hl => ?_)
        refine lv_goto (tgt := 108) hx hb dX6_layPlan_131 (by decide) ?_
        have hw : g_W D A s [(o, .inr (6, [u0, u1, u2, .ref xa, u4, u5, u6, u7, u8, u9, u10, u11, u12, u13, u14, u15, u16, u17, u18, u19, u20, u21, u22, u23, u24, u25, u26, .ref wa, .ref la, .ref ta, .int (g_tv 1 0), .int (neF (sD S) (FP.i2f (sT S 1)) (aiF (sF S) (eS nw x S) (g_tv 1 0)) 4), .float (heF (sD S) (aiF (sF S) (eS nw x S) (g_tv 1 0)) 4), u33, u34, .ref sa])), (xa, .inl (E 0, 12, .inl (g_tv 0))), (wa, .inl (E 0, 3, .inl (wnF nw x S))), (la, .inl (E 1, 4, .inr (.inr (.inl (cpF (amP (sD S) (aiF (sF S) (eS nw x S) (g_tv 1 0)) (sF S) 4) (gp) (i7 + 1)))))), (ta, .inl (E 1, 4, .inr (.inr (.inl (amP (sD S) (aiF (sF S) (eS nw x S) (g_tv 1 0)) (sF S) 4))))), (sa, .inl (E 0, 9, .inl (g_tv 1))), (pp, .inl (E 0, 29, .inl (pgF S))), (ff, .inl (E 1, 5, .inr (.inr (.inl (fl5 S)))))] H locs := by
          have e3 : (vf_upd (cpF (amP (sD S) (aiF (sF S) (eS nw x S) (g_tv 1 0)) (sF S) 4) (gp) i7) i7 ((amP (sD S) (aiF (sF S) (eS nw x S) (g_tv 1 0)) (sF S) 4) i7)) = (cpF (amP (sD S) (aiF (sF S) (eS nw x S) (g_tv 1 0)) (sF S) 4) (gp) (i7 + 1)) := by exact cpF_s _ rfl
          rw [e3] at hw
          exact hw
        exact ih (i7 + 1) (by omega)   _ _ _ hw (lv_sub hl [1, 2, 3, 4, 5, 6, 7, 0] rfl)
    have hw : g_W D A s [(o, .inr (6, [u0, u1, u2, .ref xa, u4, u5, u6, u7, u8, u9, u10, u11, u12, u13, u14, u15, u16, u17, u18, u19, u20, u21, u22, u23, u24, u25, u26, .ref wa, .ref la, .ref ta, .int (g_tv 1 0), .int (neF (sD S) (FP.i2f (sT S 1)) (aiF (sF S) (eS nw x S) (g_tv 1 0)) 4), .float (heF (sD S) (aiF (sF S) (eS nw x S) (g_tv 1 0)) 4), u33, u34, .ref sa])), (xa, .inl (E 0, 12, .inl (g_tv 0))), (wa, .inl (E 0, 3, .inl (wnF nw x S))), (la, .inl (E 1, 4, .inr (.inr (.inl (cpF (amP (sD S) (aiF (sF S) (eS nw x S) (g_tv 1 0)) (sF S) 4) (gp) 0))))), (ta, .inl (E 1, 4, .inr (.inr (.inl (amP (sD S) (aiF (sF S) (eS nw x S) (g_tv 1 0)) (sF S) 4))))), (sa, .inl (E 0, 9, .inl (g_tv 1))), (pp, .inl (E 0, 29, .inl (pgF S))), (ff, .inl (E 1, 5, .inr (.inr (.inl (fl5 S)))))] H locs := by
      have e3 : gp = (cpF (amP (sD S) (aiF (sF S) (eS nw x S) (g_tv 1 0)) (sF S) 4) (gp) 0) := by exact cpF_0 _ _
      rw [e3] at hw
      exact hw
    exact J108 4 0 (by omega)   _ _ _ hw (lv_sub hl [5, 6, 7, 4, 3, 2, 1, 0] rfl)
end P21
