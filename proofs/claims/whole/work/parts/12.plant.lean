section P12
theorem dX1_disturb_0 : decode cX1_disturb 0 = .ok (.aload_n 0, 1) := by decide +kernel
theorem dX1_disturb_1 : decode cX1_disturb 1 = .ok (.getfield 15, 3) := by decide +kernel
theorem dX1_disturb_4 : decode cX1_disturb 4 = .ok (.iconst 0, 1) := by decide +kernel
theorem dX1_disturb_5 : decode cX1_disturb 5 = .ok (.iload_n 1, 1) := by decide +kernel
theorem dX1_disturb_6 : decode cX1_disturb 6 = .ok (.iastore, 1) := by decide +kernel
theorem dX1_disturb_7 : decode cX1_disturb 7 = .ok (.aload_n 0, 1) := by decide +kernel
theorem dX1_disturb_8 : decode cX1_disturb 8 = .ok (.getfield 15, 3) := by decide +kernel
theorem dX1_disturb_11 : decode cX1_disturb 11 = .ok (.iconst 1, 1) := by decide +kernel
theorem dX1_disturb_12 : decode cX1_disturb 12 = .ok (.iload_n 2, 1) := by decide +kernel
theorem dX1_disturb_13 : decode cX1_disturb 13 = .ok (.iastore, 1) := by decide +kernel
theorem dX1_disturb_14 : decode cX1_disturb 14 = .ok (.aload_n 0, 1) := by decide +kernel
theorem dX1_disturb_15 : decode cX1_disturb 15 = .ok (.getfield 15, 3) := by decide +kernel
theorem dX1_disturb_18 : decode cX1_disturb 18 = .ok (.iconst 2, 1) := by decide +kernel
theorem dX1_disturb_19 : decode cX1_disturb 19 = .ok (.iload_n 3, 1) := by decide +kernel
theorem dX1_disturb_20 : decode cX1_disturb 20 = .ok (.iastore, 1) := by decide +kernel
theorem dX1_disturb_21 : decode cX1_disturb 21 = .ok (.return_, 1) := by decide +kernel
theorem inX1_disturb_X1 : ∀ w ∈ u_ws RX1 TX1 10, w ∈ wsX1_disturb := fun w h => List.mem_cons_of_mem _ (List.mem_append_right _ h)
set_option maxRecDepth 100000 in
set_option maxHeartbeats 4000000 in
theorem m_X1_disturb {l : Launch} {D : va_G} {E : Nat → ClassId} {T : Nat → Nat} (pl : Nat) (u0 : Value) (u1 : Value) (u2 : Value) (u4 : Value) (u5 : Value) (u6 : Value) (u7 : Value) (u8 : Value) (u9 : Value) (xa : Nat) (g : Nat → Int32) (x : Int32) (y : Int32) (z : Int32)  : g_M l D E T yX1_disturb wsX1_disturb 0 0 [.ref pl, .int x, .int y, .int z] [(pl, .inr (1, [u0, u1, u2, .ref xa, u4, u5, u6, u7, u8, u9])), (xa, .inl (E 0, 3, .inl g))] [(pl, .inr (1, [u0, u1, u2, .ref xa, u4, u5, u6, u7, u8, u9])), (xa, .inl (E 0, 3, .inl (x3F x y z)))] none := by
  refine g_M.of (cc := cX1_disturb) (nL := 4) (ret := none) (own := RX1) (lv := [(0, .ref pl), (1, .int x), (2, .int y), (3, .int z)]) (by decide) rfl rfl (Nat.le_of_ble_eq_true rfl) rfl ?_
  intro p e R s m args below meth c A Q H locs ls hR hQ hc hr hw hl
  have hx := hc.1
  have hb := hc.2.1
  have hts := hc.2.2.2.1
  have hown := hc.2.2.2.2.1
  refine lv_aload_n hx hb dX1_disturb_0 rfl (lv_at hl 0 rfl) ?_
  refine g_get (TT := TX1) hc hw inX1_disturb_X1 0 3 1 rfl rfl (by decide) rfl rfl dX1_disturb_1 ?_
  refine lv_iconst (v := 0) hx hb dX1_disturb_4 (by decide) ?_
  refine lv_iload_n hx hb dX1_disturb_5 rfl (lv_at hl 1 rfl) ?_
  refine g_ist hc hw 1 0 rfl rfl (by omega) (by decide) dX1_disturb_6 (fun H locs hw => ?_)
  have hw : g_W D A s [(pl, .inr (1, [u0, u1, u2, .ref xa, u4, u5, u6, u7, u8, u9])), (xa, .inl (E 0, 3, .inl (upd g 0 x)))] H locs := hw
  refine lv_aload_n hx hb dX1_disturb_7 rfl (lv_at hl 0 rfl) ?_
  refine g_get (TT := TX1) hc hw inX1_disturb_X1 0 3 1 rfl rfl (by decide) rfl rfl dX1_disturb_8 ?_
  refine lv_iconst (v := 1) hx hb dX1_disturb_11 (by decide) ?_
  refine lv_iload_n hx hb dX1_disturb_12 rfl (lv_at hl 2 rfl) ?_
  refine g_ist hc hw 1 1 rfl rfl (by omega) (by decide) dX1_disturb_13 (fun H locs hw => ?_)
  have hw : g_W D A s [(pl, .inr (1, [u0, u1, u2, .ref xa, u4, u5, u6, u7, u8, u9])), (xa, .inl (E 0, 3, .inl (upd (upd g 0 x) 1 y)))] H locs := hw
  refine lv_aload_n hx hb dX1_disturb_14 rfl (lv_at hl 0 rfl) ?_
  refine g_get (TT := TX1) hc hw inX1_disturb_X1 0 3 1 rfl rfl (by decide) rfl rfl dX1_disturb_15 ?_
  refine lv_iconst (v := 2) hx hb dX1_disturb_18 (by decide) ?_
  refine lv_iload_n hx hb dX1_disturb_19 rfl (lv_at hl 3 rfl) ?_
  refine g_ist hc hw 1 2 rfl rfl (by omega) (by decide) dX1_disturb_20 (fun H locs hw => ?_)
  have hw : g_W D A s [(pl, .inr (1, [u0, u1, u2, .ref xa, u4, u5, u6, u7, u8, u9])), (xa, .inl (E 0, 3, .inl (upd (upd (upd g 0 x) 1 y) 2 z)))] H locs := hw
  have hw := g_reI (q0 := 1) (g := x3F x y z) hw rfl (x3_3 g x y z)
  have hw : g_W D A s [(pl, .inr (1, [u0, u1, u2, .ref xa, u4, u5, u6, u7, u8, u9])), (xa, .inl (E 0, 3, .inl (x3F x y z)))] H locs := hw
  exact g_vret hQ hc hw hr rfl rfl dX1_disturb_21

theorem dX1_bend_0 : decode cX1_bend 0 = .ok (.aload_n 1, 1) := by decide +kernel
theorem dX1_bend_1 : decode cX1_bend 1 = .ok (.invokevirtual 59, 3) := by decide +kernel
theorem dX1_bend_4 : decode cX1_bend 4 = .ok (.iconst 1, 1) := by decide +kernel
theorem dX1_bend_5 : decode cX1_bend 5 = .ok (.if_icmp .ne 7, 3) := by decide +kernel
theorem dX1_bend_8 : decode cX1_bend 8 = .ok (.iconst 1, 1) := by decide +kernel
theorem dX1_bend_9 : decode cX1_bend 9 = .ok (.goto 4, 3) := by decide +kernel
theorem dX1_bend_12 : decode cX1_bend 12 = .ok (.iconst 0, 1) := by decide +kernel
theorem dX1_bend_13 : decode cX1_bend 13 = .ok (.istore_n 2, 1) := by decide +kernel
theorem dX1_bend_14 : decode cX1_bend 14 = .ok (.iconst 0, 1) := by decide +kernel
theorem dX1_bend_15 : decode cX1_bend 15 = .ok (.istore_n 3, 1) := by decide +kernel
theorem dX1_bend_16 : decode cX1_bend 16 = .ok (.iload_n 3, 1) := by decide +kernel
theorem dX1_bend_17 : decode cX1_bend 17 = .ok (.iconst 3, 1) := by decide +kernel
theorem dX1_bend_18 : decode cX1_bend 18 = .ok (.if_icmp .ge 91, 3) := by decide +kernel
theorem dX1_bend_21 : decode cX1_bend 21 = .ok (.iconst 0, 1) := by decide +kernel
theorem dX1_bend_22 : decode cX1_bend 22 = .ok (.istore 4, 2) := by decide +kernel
theorem dX1_bend_24 : decode cX1_bend 24 = .ok (.iconst 0, 1) := by decide +kernel
theorem dX1_bend_25 : decode cX1_bend 25 = .ok (.istore 5, 2) := by decide +kernel
theorem dX1_bend_27 : decode cX1_bend 27 = .ok (.iload 5, 2) := by decide +kernel
theorem dX1_bend_29 : decode cX1_bend 29 = .ok (.iconst 4, 1) := by decide +kernel
theorem dX1_bend_30 : decode cX1_bend 30 = .ok (.if_icmp .ge 34, 3) := by decide +kernel
theorem dX1_bend_33 : decode cX1_bend 33 = .ok (.iload_n 2, 1) := by decide +kernel
theorem dX1_bend_34 : decode cX1_bend 34 = .ok (.ifCond .eq 24, 3) := by decide +kernel
theorem dX1_bend_37 : decode cX1_bend 37 = .ok (.aload_n 1, 1) := by decide +kernel
theorem dX1_bend_38 : decode cX1_bend 38 = .ok (.iload 5, 2) := by decide +kernel
theorem dX1_bend_40 : decode cX1_bend 40 = .ok (.invokevirtual 90, 3) := by decide +kernel
theorem dX1_bend_43 : decode cX1_bend 43 = .ok (.ifCond .eq 15, 3) := by decide +kernel
theorem dX1_bend_46 : decode cX1_bend 46 = .ok (.getstatic 94, 3) := by decide +kernel
theorem dX1_bend_49 : decode cX1_bend 49 = .ok (.iload 5, 2) := by decide +kernel
theorem dX1_bend_51 : decode cX1_bend 51 = .ok (.iconst 3, 1) := by decide +kernel
theorem dX1_bend_52 : decode cX1_bend 52 = .ok (.imul, 1) := by decide +kernel
theorem dX1_bend_53 : decode cX1_bend 53 = .ok (.iload_n 3, 1) := by decide +kernel
theorem dX1_bend_54 : decode cX1_bend 54 = .ok (.iadd, 1) := by decide +kernel
theorem dX1_bend_55 : decode cX1_bend 55 = .ok (.iaload, 1) := by decide +kernel
theorem dX1_bend_56 : decode cX1_bend 56 = .ok (.istore 4, 2) := by decide +kernel
theorem dX1_bend_58 : decode cX1_bend 58 = .ok (.iinc 5 1, 3) := by decide +kernel
theorem dX1_bend_61 : decode cX1_bend 61 = .ok (.goto (-34), 3) := by decide +kernel
theorem dX1_bend_64 : decode cX1_bend 64 = .ok (.iconst 0, 1) := by decide +kernel
theorem dX1_bend_65 : decode cX1_bend 65 = .ok (.istore 5, 2) := by decide +kernel
theorem dX1_bend_67 : decode cX1_bend 67 = .ok (.iload 5, 2) := by decide +kernel
theorem dX1_bend_69 : decode cX1_bend 69 = .ok (.iconst 4, 1) := by decide +kernel
theorem dX1_bend_70 : decode cX1_bend 70 = .ok (.if_icmp .ge 33, 3) := by decide +kernel
theorem dX1_bend_73 : decode cX1_bend 73 = .ok (.aload_n 0, 1) := by decide +kernel
theorem dX1_bend_74 : decode cX1_bend 74 = .ok (.getfield 18, 3) := by decide +kernel
theorem dX1_bend_77 : decode cX1_bend 77 = .ok (.iload 5, 2) := by decide +kernel
theorem dX1_bend_79 : decode cX1_bend 79 = .ok (.iconst 3, 1) := by decide +kernel
theorem dX1_bend_80 : decode cX1_bend 80 = .ok (.imul, 1) := by decide +kernel
theorem dX1_bend_81 : decode cX1_bend 81 = .ok (.iload_n 3, 1) := by decide +kernel
theorem dX1_bend_82 : decode cX1_bend 82 = .ok (.iadd, 1) := by decide +kernel
theorem dX1_bend_83 : decode cX1_bend 83 = .ok (.getstatic 94, 3) := by decide +kernel
theorem dX1_bend_86 : decode cX1_bend 86 = .ok (.iload 5, 2) := by decide +kernel
theorem dX1_bend_88 : decode cX1_bend 88 = .ok (.iconst 3, 1) := by decide +kernel
theorem dX1_bend_89 : decode cX1_bend 89 = .ok (.imul, 1) := by decide +kernel
theorem dX1_bend_90 : decode cX1_bend 90 = .ok (.iload_n 3, 1) := by decide +kernel
theorem dX1_bend_91 : decode cX1_bend 91 = .ok (.iadd, 1) := by decide +kernel
theorem dX1_bend_92 : decode cX1_bend 92 = .ok (.iaload, 1) := by decide +kernel
theorem dX1_bend_93 : decode cX1_bend 93 = .ok (.iload 4, 2) := by decide +kernel
theorem dX1_bend_95 : decode cX1_bend 95 = .ok (.isub, 1) := by decide +kernel
theorem dX1_bend_96 : decode cX1_bend 96 = .ok (.iastore, 1) := by decide +kernel
theorem dX1_bend_97 : decode cX1_bend 97 = .ok (.iinc 5 1, 3) := by decide +kernel
theorem dX1_bend_100 : decode cX1_bend 100 = .ok (.goto (-33), 3) := by decide +kernel
theorem dX1_bend_103 : decode cX1_bend 103 = .ok (.iinc 3 1, 3) := by decide +kernel
theorem dX1_bend_106 : decode cX1_bend 106 = .ok (.goto (-90), 3) := by decide +kernel
theorem dX1_bend_109 : decode cX1_bend 109 = .ok (.return_, 1) := by decide +kernel
set_option maxRecDepth 20000 in
theorem ggX1_bend_X4_deadCount : GoodIn wsX1_bend wsX4_deadCount := goodIn_r _ [5, 6, 7, 8, 9, 10, 11, 12, 13, 27, 28, 29, 30, 31, 32, 33, 34, 35, 36, 37] rfl (by decide +kernel)
set_option maxRecDepth 20000 in
theorem ggX1_bend_X4_isDead : GoodIn wsX1_bend wsX4_isDead := goodIn_r _ [16, 6, 27, 28, 29, 30, 31, 32, 33, 34, 35, 36, 37] rfl (by decide +kernel)
theorem inX1_bend_X1 : ∀ w ∈ u_ws RX1 TX1 10, w ∈ wsX1_bend := fun w h => List.mem_cons_of_mem _ (List.mem_append_left _ (List.mem_append_right _ h))
set_option maxRecDepth 100000 in
set_option maxHeartbeats 4000000 in
theorem m_X1_bend {l : Launch} {D : va_G} {E : Nat → ClassId} {T : Nat → Nat} (pl : Nat) (h : Nat) (u0 : Value) (u1 : Value) (u2 : Value) (u3 : Value) (u5 : Value) (u6 : Value) (u7 : Value) (u8 : Value) (u9 : Value) (v0 : Value) (v1 : Value) (v2 : Value) (v4 : Value) (v5 : Value) (v6 : Value) (v7 : Value) (v8 : Value) (v9 : Value) (v10 : Value) (ba : Nat) (d : Nat) (g : Nat → Int32) (hd : d < 16) : g_M l D E T yX1_bend wsX1_bend 2 40 [.ref pl, .ref h] [(pl, .inr (1, [u0, u1, u2, u3, .ref ba, u5, u6, u7, u8, u9])), (h, .inr (4, [v0, v1, v2, .int (nI d), v4, v5, v6, v7, v8, v9, v10])), (ba, .inl (E 0, 12, .inl g))] [(pl, .inr (1, [u0, u1, u2, u3, .ref ba, u5, u6, u7, u8, u9])), (h, .inr (4, [v0, v1, v2, .int (nI d), v4, v5, v6, v7, v8, v9, v10])), (ba, .inl (E 0, 12, .inl (btF d)))] none := by
  refine g_M.of (cc := cX1_bend) (nL := 6) (ret := none) (own := RX1) (lv := [(0, .ref pl), (1, .ref h)]) (by decide) rfl rfl (Nat.le_of_ble_eq_true rfl) rfl ?_
  intro p e R s m args below meth c A Q H locs ls hR hQ hc hr hw hl
  have hx := hc.1
  have hb := hc.2.1
  have hts := hc.2.2.2.1
  have hown := hc.2.2.2.2.1
  refine lv_aload_n hx hb dX1_bend_0 rfl (lv_at hl 1 rfl) ?_
  refine g_cVN (As := []) (n := 0) (rest := []) (wc := [(h, .inr (4, [v0, v1, v2, .int (nI d), v4, v5, v6, v7, v8, v9, v10]))]) (w1 := [(h, .inr (4, [v0, v1, v2, .int (nI d), v4, v5, v6, v7, v8, v9, v10]))]) (bytes := cX4_deadCount) (maxL := 1) (ret := (some .int)) hc hw hl.1 (m_X4_deadCount (l := l) (D := D) (E := E) (T := T) h v0 v1 v2 v4 v5 v6 v7 v8 v9 v10 d (by first | assumption | omega | decide)) ggX1_bend_X4_deadCount rfl 58 rfl 3 2 4 rfl rfl rfl (by decide +kernel) (by rw [hR]; exact ⟨Nat.le_of_ble_eq_true rfl, Nat.le_of_ble_eq_true rfl⟩) [1] 1 4 rfl rfl (by decide) rfl [h] rfl rfl rfl rfl (Nat.le_of_ble_eq_true rfl) dX1_bend_1 ⟨Nat.zero_le _, Nat.zero_le _⟩ (fun H locs hw => ?_)
  have hw : g_W D A s [(pl, .inr (1, [u0, u1, u2, u3, .ref ba, u5, u6, u7, u8, u9])), (h, .inr (4, [v0, v1, v2, .int (nI d), v4, v5, v6, v7, v8, v9, v10])), (ba, .inl (E 0, 12, .inl g))] H locs := hw
  refine lv_iconst (v := 1) hx hb dX1_bend_4 (by decide) ?_
  have J13 : ∀ (H : Heap) (locs : List Loc) (ls : Array Slot), g_W D A s [(pl, .inr (1, [u0, u1, u2, u3, .ref ba, u5, u6, u7, u8, u9])), (h, .inr (4, [v0, v1, v2, .int (nI d), v4, v5, v6, v7, v8, v9, v10])), (ba, .inl (E 0, 12, .inl g))] H locs → lv_has ls 6 [(0, .ref pl), (1, .ref h)] → W p l e R s m args below meth c H locs 0 0 Q (F0 m 13 ls [.int (b2i (decide (pcn d = 1)))]) := by
    intro   H locs ls hw hl
    refine lv_istore_n (lv' := [(2, .int (b2i (decide (pcn d = 1)))), (0, .ref pl), (1, .ref h)]) hx hb dX1_bend_13 rfl hl (by decide) rfl (fun ls hl => ?_)
    refine lv_iconst (v := 0) hx hb dX1_bend_14 (by decide) ?_
    refine lv_istore_n (lv' := [(3, .int 0), (2, .int (b2i (decide (pcn d = 1)))), (0, .ref pl), (1, .ref h)]) hx hb dX1_bend_15 rfl hl (by decide) rfl (fun ls hl => ?_)
    have J16 : ∀ (k9 : Nat) (k : Nat), k + k9 = 3 → ∀ (H : Heap) (locs : List Loc) (ls : Array Slot), g_W D A s [(pl, .inr (1, [u0, u1, u2, u3, .ref ba, u5, u6, u7, u8, u9])), (h, .inr (4, [v0, v1, v2, .int (nI d), v4, v5, v6, v7, v8, v9, v10])), (ba, .inl (E 0, 12, .inl (bnP d g k 0)))] H locs → lv_has ls 6 [(0, .ref pl), (1, .ref h), (2, .int (b2i (decide (pcn d = 1)))), (3, .int (nI k))] → W p l e R s m args below meth c H locs 0 0 Q (F0 m 16 ls []) := by
      intro k9
      induction k9 with
      | zero =>
        intro k h9   H locs ls hw hl
        have h9 : k = 3 := h9
        subst h9
        refine lv_iload_n hx hb dX1_bend_16 rfl (lv_at hl 3 rfl) ?_
        refine lv_iconst (v := 3) hx hb dX1_bend_17 (by decide) ?_
        refine lv_icmp_ge (tgt := 109) hx hb dX1_bend_18 (by decide) (fun c_18 => ?_) (fun c_18 => absurd (by first | exact Int32.le_refl _ | decide) c_18)
        have hw := g_reI (q0 := 2) (g := btF d) hw rfl (bnP_3 d g)
        have hw : g_W D A s [(pl, .inr (1, [u0, u1, u2, u3, .ref ba, u5, u6, u7, u8, u9])), (h, .inr (4, [v0, v1, v2, .int (nI d), v4, v5, v6, v7, v8, v9, v10])), (ba, .inl (E 0, 12, .inl (btF d)))] H locs := hw
        exact g_vret hQ hc hw hr rfl rfl dX1_bend_109
      | succ k9 ih =>
        intro k h9   H locs ls hw hl
        have h9b : k < 3 := by omega
        refine lv_iload_n hx hb dX1_bend_16 rfl (lv_at hl 3 rfl) ?_
        refine lv_iconst (v := 3) hx hb dX1_bend_17 (by decide) ?_
        refine lv_icmp_ge (tgt := 109) hx hb dX1_bend_18 (by decide) (fun c_18 => absurd c_18 (nI_ge h9b (by decide))) (fun c_18 => ?_)
        refine lv_iconst (v := 0) hx hb dX1_bend_21 (by decide) ?_
        refine lv_istore (lv' := [(4, .int 0), (0, .ref pl), (1, .ref h), (2, .int (b2i (decide (pcn d = 1)))), (3, .int (nI k))]) hx hb dX1_bend_22 hl (by decide) rfl (fun ls hl => ?_)
        refine lv_iconst (v := 0) hx hb dX1_bend_24 (by decide) ?_
        refine lv_istore (lv' := [(5, .int 0), (4, .int 0), (0, .ref pl), (1, .ref h), (2, .int (b2i (decide (pcn d = 1)))), (3, .int (nI k))]) hx hb dX1_bend_25 hl (by decide) rfl (fun ls hl => ?_)
        have J27 : ∀ (k9 : Nat) (i : Nat), i + k9 = 4 → ∀ (H : Heap) (locs : List Loc) (ls : Array Slot), g_W D A s [(pl, .inr (1, [u0, u1, u2, u3, .ref ba, u5, u6, u7, u8, u9])), (h, .inr (4, [v0, v1, v2, .int (nI d), v4, v5, v6, v7, v8, v9, v10])), (ba, .inl (E 0, 12, .inl (bnP d g k 0)))] H locs → lv_has ls 6 [(0, .ref pl), (1, .ref h), (2, .int (b2i (decide (pcn d = 1)))), (3, .int (nI k)), (4, .int (lessP d k i)), (5, .int (nI i))] → W p l e R s m args below meth c H locs 0 0 Q (F0 m 27 ls []) := by
          intro k9
          induction k9 with
          | zero =>
            intro i h9   H locs ls hw hl
            have h9 : i = 4 := h9
            subst h9
            refine lv_iload hx hb dX1_bend_27 (lv_at hl 5 rfl) ?_
            refine lv_iconst (v := 4) hx hb dX1_bend_29 (by decide) ?_
            refine lv_icmp_ge (tgt := 64) hx hb dX1_bend_30 (by decide) (fun c_30 => ?_) (fun c_30 => absurd (by first | exact Int32.le_refl _ | decide) c_30)
            refine lv_iconst (v := 0) hx hb dX1_bend_64 (by decide) ?_
            refine lv_istore (lv' := [(5, .int 0), (0, .ref pl), (1, .ref h), (2, .int (b2i (decide (pcn d = 1)))), (3, .int (nI k)), (4, .int (lessP d k 4))]) hx hb dX1_bend_65 hl (by decide) rfl (fun ls hl => ?_)
            have J67 : ∀ (k9 : Nat) (i : Nat), i + k9 = 4 → ∀ (H : Heap) (locs : List Loc) (ls : Array Slot), g_W D A s [(pl, .inr (1, [u0, u1, u2, u3, .ref ba, u5, u6, u7, u8, u9])), (h, .inr (4, [v0, v1, v2, .int (nI d), v4, v5, v6, v7, v8, v9, v10])), (ba, .inl (E 0, 12, .inl (bnP d g k i)))] H locs → lv_has ls 6 [(0, .ref pl), (1, .ref h), (2, .int (b2i (decide (pcn d = 1)))), (3, .int (nI k)), (4, .int (lessP d k 4)), (5, .int (nI i))] → W p l e R s m args below meth c H locs 0 0 Q (F0 m 67 ls []) := by
              intro k9
              induction k9 with
              | zero =>
                intro i h9   H locs ls hw hl
                have h9 : i = 4 := h9
                subst h9
                refine lv_iload hx hb dX1_bend_67 (lv_at hl 5 rfl) ?_
                refine lv_iconst (v := 4) hx hb dX1_bend_69 (by decide) ?_
                refine lv_icmp_ge (tgt := 103) hx hb dX1_bend_70 (by decide) (fun c_70 => ?_) (fun c_70 => absurd (by first | exact Int32.le_refl _ | decide) c_70)
                refine lv_iinc (v := nI (k + 1)) (lv' := [(3, .int (nI (k + 1))), (0, .ref pl), (1, .ref h), (2, .int (b2i (decide (pcn d = 1)))), (4, .int (lessP d k 4)), (5, .int (nI 4))]) hx hb dX1_bend_103 hl (k := 3) rfl (n_inc1 rfl) (by decide) rfl (fun ls hl => ?_)
                refine lv_goto (tgt := 16) hx hb dX1_bend_106 (by decide) ?_
                have hw : g_W D A s [(pl, .inr (1, [u0, u1, u2, u3, .ref ba, u5, u6, u7, u8, u9])), (h, .inr (4, [v0, v1, v2, .int (nI d), v4, v5, v6, v7, v8, v9, v10])), (ba, .inl (E 0, 12, .inl (bnP d g (k + 1) 0)))] H locs := by
                  have e2 : (bnP d g k 4) = (bnP d g (k + 1) 0) := by exact bnP_col d g k
                  rw [e2] at hw
                  exact hw
                exact ih (k + 1) (by omega)   _ _ _ hw (lv_sub hl [1, 2, 3, 0] rfl)
              | succ k9 ih =>
                intro i h9   H locs ls hw hl
                have h9b : i < 4 := by omega
                refine lv_iload hx hb dX1_bend_67 (lv_at hl 5 rfl) ?_
                refine lv_iconst (v := 4) hx hb dX1_bend_69 (by decide) ?_
                refine lv_icmp_ge (tgt := 103) hx hb dX1_bend_70 (by decide) (fun c_70 => absurd c_70 (nI_ge h9b (by decide))) (fun c_70 => ?_)
                refine lv_aload_n hx hb dX1_bend_73 rfl (lv_at hl 0 rfl) ?_
                refine g_get (TT := TX1) hc hw inX1_bend_X1 0 4 1 rfl rfl (by decide) rfl rfl dX1_bend_74 ?_
                refine lv_iload hx hb dX1_bend_77 (lv_at hl 5 rfl) ?_
                refine lv_iconst (v := 3) hx hb dX1_bend_79 (by decide) ?_
                refine lv_imul hx hb dX1_bend_80 ?_
                refine lv_iload_n hx hb dX1_bend_81 rfl (lv_at hl 3 rfl) ?_
                refine lv_iadd hx hb dX1_bend_82 ?_
                refine g_gstN hc hw 0 60 (by decide) rfl dX1_bend_83 ?_
                refine lv_iload hx hb dX1_bend_86 (lv_at hl 5 rfl) ?_
                refine lv_iconst (v := 3) hx hb dX1_bend_88 (by decide) ?_
                refine lv_imul hx hb dX1_bend_89 ?_
                refine lv_iload_n hx hb dX1_bend_90 rfl (lv_at hl 3 rfl) ?_
                refine lv_iadd hx hb dX1_bend_91 ?_
                refine g_tld hc hw 0 ((i * 3) + k) (by decide) (n_add (n_mul rfl rfl) rfl) (by first | decide | (show _ < 12; omega)) dX1_bend_92 ?_
                refine lv_iload hx hb dX1_bend_93 (lv_at hl 4 rfl) ?_
                refine lv_isub hx hb dX1_bend_95 ?_
                refine g_ist hc hw 2 ((i * 3) + k) rfl (n_add (n_mul rfl rfl) rfl) (by omega) (by decide) dX1_bend_96 (fun H locs hw => ?_)
                have hw : g_W D A s [(pl, .inr (1, [u0, u1, u2, u3, .ref ba, u5, u6, u7, u8, u9])), (h, .inr (4, [v0, v1, v2, .int (nI d), v4, v5, v6, v7, v8, v9, v10])), (ba, .inl (E 0, 12, .inl (upd (bnP d g k i) ((i * 3) + k) ((g_tv 0 ((i * 3) + k)) - (lessP d k 4)))))] H locs := hw
                refine lv_iinc (v := nI (i + 1)) (lv' := [(5, .int (nI (i + 1))), (0, .ref pl), (1, .ref h), (2, .int (b2i (decide (pcn d = 1)))), (3, .int (nI k)), (4, .int (lessP d k 4))]) hx hb dX1_bend_97 hl (k := 5) rfl (n_inc1 rfl) (by decide) rfl (fun ls hl => ?_)
                refine lv_goto (tgt := 67) hx hb dX1_bend_100 (by decide) ?_
                have hw : g_W D A s [(pl, .inr (1, [u0, u1, u2, u3, .ref ba, u5, u6, u7, u8, u9])), (h, .inr (4, [v0, v1, v2, .int (nI d), v4, v5, v6, v7, v8, v9, v10])), (ba, .inl (E 0, 12, .inl (bnP d g k (i + 1))))] H locs := by
                  have e2 : (upd (bnP d g k i) ((i * 3) + k) ((g_tv 0 ((i * 3) + k)) - (lessP d k 4))) = (bnP d g k (i + 1)) := by exact bnP_step d g (by omega) (by omega)
                  rw [e2] at hw
                  exact hw
                exact ih (i + 1) (by omega)   _ _ _ hw (lv_sub hl [1, 2, 3, 4, 5, 0] rfl)
            exact J67 4 0 (by omega)   _ _ _ hw (lv_sub hl [1, 2, 3, 4, 5, 0] rfl)
          | succ k9 ih =>
            intro i h9   H locs ls hw hl
            have h9b : i < 4 := by omega
            refine lv_iload hx hb dX1_bend_27 (lv_at hl 5 rfl) ?_
            refine lv_iconst (v := 4) hx hb dX1_bend_29 (by decide) ?_
            refine lv_icmp_ge (tgt := 64) hx hb dX1_bend_30 (by decide) (fun c_30 => absurd c_30 (nI_ge h9b (by decide))) (fun c_30 => ?_)
            refine lv_iload_n hx hb dX1_bend_33 rfl (lv_at hl 2 rfl) ?_
            refine lv_if_eq (tgt := 58) hx hb dX1_bend_34 (by decide) (fun c_34 => ?_) (fun c_34 => ?_)
            · skip
              have k_34 := b2i_eq c_34
              refine lv_iinc (v := nI (i + 1)) (lv' := [(5, .int (nI (i + 1))), (0, .ref pl), (1, .ref h), (2, .int (b2i (decide (pcn d = 1)))), (3, .int (nI k)), (4, .int (lessP d k i))]) hx hb dX1_bend_58 hl (k := 5) rfl (n_inc1 rfl) (by decide) rfl (fun ls hl => ?_)
              refine lv_goto (tgt := 27) hx hb dX1_bend_61 (by decide) ?_
              have hl := lv_conv hl 5 rfl (v' := (.int (lessP d k (i + 1)))) (by exact congrArg Value.int (lessN1 (of_decide_eq_false k_34)))
              have hl : lv_has ls 6 [(5, .int (nI (i + 1))), (0, .ref pl), (1, .ref h), (2, .int (b2i (decide (pcn d = 1)))), (3, .int (nI k)), (4, .int (lessP d k (i + 1)))] := hl
              exact ih (i + 1) (by omega)   _ _ _ hw (lv_sub hl [1, 2, 3, 4, 5, 0] rfl)
            · skip
              have k_34 := b2i_ne c_34
              refine lv_aload_n hx hb dX1_bend_37 rfl (lv_at hl 1 rfl) ?_
              refine lv_iload hx hb dX1_bend_38 (lv_at hl 5 rfl) ?_
              refine g_cVN (As := [.int (nI i)]) (n := 1) (rest := []) (wc := [(h, .inr (4, [v0, v1, v2, .int (nI d), v4, v5, v6, v7, v8, v9, v10]))]) (w1 := [(h, .inr (4, [v0, v1, v2, .int (nI d), v4, v5, v6, v7, v8, v9, v10]))]) (bytes := cX4_isDead) (maxL := 2) (ret := (some .boolean)) hc hw hl.1 (m_X4_isDead (l := l) (D := D) (E := E) (T := T) h v0 v1 v2 v4 v5 v6 v7 v8 v9 v10 d i (by first | assumption | omega | decide) (by first | assumption | omega | decide)) ggX1_bend_X4_isDead rfl 59 rfl 3 14 15 rfl rfl rfl (by decide +kernel) (by rw [hR]; exact ⟨Nat.le_of_ble_eq_true rfl, Nat.le_of_ble_eq_true rfl⟩) [1] 1 4 rfl rfl (by decide) rfl [h] rfl rfl rfl rfl (Nat.le_of_ble_eq_true rfl) dX1_bend_40 ⟨Nat.zero_le _, Nat.zero_le _⟩ (fun H locs hw => ?_)
              have hw : g_W D A s [(pl, .inr (1, [u0, u1, u2, u3, .ref ba, u5, u6, u7, u8, u9])), (h, .inr (4, [v0, v1, v2, .int (nI d), v4, v5, v6, v7, v8, v9, v10])), (ba, .inl (E 0, 12, .inl (bnP d g k 0)))] H locs := hw
              refine lv_if_eq (tgt := 58) hx hb dX1_bend_43 (by decide) (fun c_43 => ?_) (fun c_43 => ?_)
              · skip
                have k_43 := b2i_eq c_43
                refine lv_iinc (v := nI (i + 1)) (lv' := [(5, .int (nI (i + 1))), (0, .ref pl), (1, .ref h), (2, .int (b2i (decide (pcn d = 1)))), (3, .int (nI k)), (4, .int (lessP d k i))]) hx hb dX1_bend_58 hl (k := 5) rfl (n_inc1 rfl) (by decide) rfl (fun ls hl => ?_)
                refine lv_goto (tgt := 27) hx hb dX1_bend_61 (by decide) ?_
                have hl := lv_conv hl 5 rfl (v' := (.int (lessP d k (i + 1)))) (by exact congrArg Value.int (lessN2 k_43))
                have hl : lv_has ls 6 [(5, .int (nI (i + 1))), (0, .ref pl), (1, .ref h), (2, .int (b2i (decide (pcn d = 1)))), (3, .int (nI k)), (4, .int (lessP d k (i + 1)))] := hl
                exact ih (i + 1) (by omega)   _ _ _ hw (lv_sub hl [1, 2, 3, 4, 5, 0] rfl)
              · skip
                have k_43 := b2i_ne c_43
                refine g_gstN hc hw 0 60 (by decide) rfl dX1_bend_46 ?_
                refine lv_iload hx hb dX1_bend_49 (lv_at hl 5 rfl) ?_
                refine lv_iconst (v := 3) hx hb dX1_bend_51 (by decide) ?_
                refine lv_imul hx hb dX1_bend_52 ?_
                refine lv_iload_n hx hb dX1_bend_53 rfl (lv_at hl 3 rfl) ?_
                refine lv_iadd hx hb dX1_bend_54 ?_
                refine g_tld hc hw 0 ((i * 3) + k) (by decide) (n_add (n_mul rfl rfl) rfl) (by first | decide | (show _ < 12; omega)) dX1_bend_55 ?_
                refine lv_istore (lv' := [(4, .int (g_tv 0 ((i * 3) + k))), (0, .ref pl), (1, .ref h), (2, .int (b2i (decide (pcn d = 1)))), (3, .int (nI k)), (5, .int (nI i))]) hx hb dX1_bend_56 hl (by decide) rfl (fun ls hl => ?_)
                refine lv_iinc (v := nI (i + 1)) (lv' := [(5, .int (nI (i + 1))), (4, .int (g_tv 0 ((i * 3) + k))), (0, .ref pl), (1, .ref h), (2, .int (b2i (decide (pcn d = 1)))), (3, .int (nI k))]) hx hb dX1_bend_58 hl (k := 5) rfl (n_inc1 rfl) (by decide) rfl (fun ls hl => ?_)
                refine lv_goto (tgt := 27) hx hb dX1_bend_61 (by decide) ?_
                have hl := lv_conv hl 1 rfl (v' := (.int (lessP d k (i + 1)))) (by exact congrArg Value.int (lessT (of_decide_eq_true k_34) k_43))
                have hl : lv_has ls 6 [(5, .int (nI (i + 1))), (4, .int (lessP d k (i + 1))), (0, .ref pl), (1, .ref h), (2, .int (b2i (decide (pcn d = 1)))), (3, .int (nI k))] := hl
                exact ih (i + 1) (by omega)   _ _ _ hw (lv_sub hl [2, 3, 4, 5, 1, 0] rfl)
        exact J27 4 0 (by omega)   _ _ _ hw (lv_sub hl [2, 3, 4, 5, 1, 0] rfl)
    have hw : g_W D A s [(pl, .inr (1, [u0, u1, u2, u3, .ref ba, u5, u6, u7, u8, u9])), (h, .inr (4, [v0, v1, v2, .int (nI d), v4, v5, v6, v7, v8, v9, v10])), (ba, .inl (E 0, 12, .inl (bnP d g 0 0)))] H locs := by
      have e2 : g = (bnP d g 0 0) := by exact bnP_0 d g
      rw [e2] at hw
      exact hw
    exact J16 3 0 (by omega)   _ _ _ hw (lv_sub hl [2, 3, 1, 0] rfl)
  refine lv_icmp_ne (tgt := 12) hx hb dX1_bend_5 (by decide) (fun c_5 => ?_) (fun c_5 => ?_)
  · skip
    refine lv_iconst (v := 0) hx hb dX1_bend_12 (by decide) ?_
    refine W.eq (congrArg (fun z => F0 m 13 ls (.int z :: [])) (show (0 : Int32) = b2i (decide (pcn d = 1)) by rw [decide_eq_false (g_nen1 c_5)]; rfl)) ?_
    exact J13   _ _ _ hw (lv_sub hl [0, 1] rfl)
  · skip
    refine lv_iconst (v := 1) hx hb dX1_bend_8 (by decide) ?_
    refine lv_goto (tgt := 13) hx hb dX1_bend_9 (by decide) ?_
    refine W.eq (congrArg (fun z => F0 m 13 ls (.int z :: [])) (show (1 : Int32) = b2i (decide (pcn d = 1)) by rw [decide_eq_true (g_eqn1 (pcn_lt d hd) c_5)]; rfl)) ?_
    exact J13   _ _ _ hw (lv_sub hl [0, 1] rfl)

theorem dX1_push_0 : decode cX1_push 0 = .ok (.aload_n 1, 1) := by decide +kernel
theorem dX1_push_1 : decode cX1_push 1 = .ok (.getfield 97, 3) := by decide +kernel
theorem dX1_push_4 : decode cX1_push 4 = .ok (.aload_n 0, 1) := by decide +kernel
theorem dX1_push_5 : decode cX1_push 5 = .ok (.getfield 100, 3) := by decide +kernel
theorem dX1_push_8 : decode cX1_push 8 = .ok (.aload_n 1, 1) := by decide +kernel
theorem dX1_push_9 : decode cX1_push 9 = .ok (.getfield 65, 3) := by decide +kernel
theorem dX1_push_12 : decode cX1_push 12 = .ok (.iconst 0, 1) := by decide +kernel
theorem dX1_push_13 : decode cX1_push 13 = .ok (.invokestatic 103, 3) := by decide +kernel
theorem dX1_push_16 : decode cX1_push 16 = .ok (.aload_n 0, 1) := by decide +kernel
theorem dX1_push_17 : decode cX1_push 17 = .ok (.getfield 15, 3) := by decide +kernel
theorem dX1_push_20 : decode cX1_push 20 = .ok (.iconst 0, 1) := by decide +kernel
theorem dX1_push_21 : decode cX1_push 21 = .ok (.iaload, 1) := by decide +kernel
theorem dX1_push_22 : decode cX1_push 22 = .ok (.iadd, 1) := by decide +kernel
theorem dX1_push_23 : decode cX1_push 23 = .ok (.istore_n 2, 1) := by decide +kernel
theorem dX1_push_24 : decode cX1_push 24 = .ok (.aload_n 1, 1) := by decide +kernel
theorem dX1_push_25 : decode cX1_push 25 = .ok (.getfield 97, 3) := by decide +kernel
theorem dX1_push_28 : decode cX1_push 28 = .ok (.aload_n 0, 1) := by decide +kernel
theorem dX1_push_29 : decode cX1_push 29 = .ok (.getfield 100, 3) := by decide +kernel
theorem dX1_push_32 : decode cX1_push 32 = .ok (.aload_n 1, 1) := by decide +kernel
theorem dX1_push_33 : decode cX1_push 33 = .ok (.getfield 65, 3) := by decide +kernel
theorem dX1_push_36 : decode cX1_push 36 = .ok (.iconst 1, 1) := by decide +kernel
theorem dX1_push_37 : decode cX1_push 37 = .ok (.invokestatic 103, 3) := by decide +kernel
theorem dX1_push_40 : decode cX1_push 40 = .ok (.aload_n 0, 1) := by decide +kernel
theorem dX1_push_41 : decode cX1_push 41 = .ok (.getfield 15, 3) := by decide +kernel
theorem dX1_push_44 : decode cX1_push 44 = .ok (.iconst 1, 1) := by decide +kernel
theorem dX1_push_45 : decode cX1_push 45 = .ok (.iaload, 1) := by decide +kernel
theorem dX1_push_46 : decode cX1_push 46 = .ok (.iadd, 1) := by decide +kernel
theorem dX1_push_47 : decode cX1_push 47 = .ok (.istore_n 3, 1) := by decide +kernel
theorem dX1_push_48 : decode cX1_push 48 = .ok (.aload_n 1, 1) := by decide +kernel
theorem dX1_push_49 : decode cX1_push 49 = .ok (.getfield 97, 3) := by decide +kernel
theorem dX1_push_52 : decode cX1_push 52 = .ok (.aload_n 0, 1) := by decide +kernel
theorem dX1_push_53 : decode cX1_push 53 = .ok (.getfield 100, 3) := by decide +kernel
theorem dX1_push_56 : decode cX1_push 56 = .ok (.aload_n 1, 1) := by decide +kernel
theorem dX1_push_57 : decode cX1_push 57 = .ok (.getfield 65, 3) := by decide +kernel
theorem dX1_push_60 : decode cX1_push 60 = .ok (.iconst 2, 1) := by decide +kernel
theorem dX1_push_61 : decode cX1_push 61 = .ok (.invokestatic 103, 3) := by decide +kernel
theorem dX1_push_64 : decode cX1_push 64 = .ok (.aload_n 0, 1) := by decide +kernel
theorem dX1_push_65 : decode cX1_push 65 = .ok (.getfield 15, 3) := by decide +kernel
theorem dX1_push_68 : decode cX1_push 68 = .ok (.iconst 2, 1) := by decide +kernel
theorem dX1_push_69 : decode cX1_push 69 = .ok (.iaload, 1) := by decide +kernel
theorem dX1_push_70 : decode cX1_push 70 = .ok (.iadd, 1) := by decide +kernel
theorem dX1_push_71 : decode cX1_push 71 = .ok (.istore 4, 2) := by decide +kernel
theorem dX1_push_73 : decode cX1_push 73 = .ok (.iconst 0, 1) := by decide +kernel
theorem dX1_push_74 : decode cX1_push 74 = .ok (.istore 5, 2) := by decide +kernel
theorem dX1_push_76 : decode cX1_push 76 = .ok (.iload 5, 2) := by decide +kernel
theorem dX1_push_78 : decode cX1_push 78 = .ok (.iconst 4, 1) := by decide +kernel
theorem dX1_push_79 : decode cX1_push 79 = .ok (.if_icmp .ge 60, 3) := by decide +kernel
theorem dX1_push_82 : decode cX1_push 82 = .ok (.aload_n 0, 1) := by decide +kernel
theorem dX1_push_83 : decode cX1_push 83 = .ok (.getfield 21, 3) := by decide +kernel
theorem dX1_push_86 : decode cX1_push 86 = .ok (.iload 5, 2) := by decide +kernel
theorem dX1_push_88 : decode cX1_push 88 = .ok (.aload_n 0, 1) := by decide +kernel
theorem dX1_push_89 : decode cX1_push 89 = .ok (.getfield 18, 3) := by decide +kernel
theorem dX1_push_92 : decode cX1_push 92 = .ok (.iload 5, 2) := by decide +kernel
theorem dX1_push_94 : decode cX1_push 94 = .ok (.iconst 3, 1) := by decide +kernel
theorem dX1_push_95 : decode cX1_push 95 = .ok (.imul, 1) := by decide +kernel
theorem dX1_push_96 : decode cX1_push 96 = .ok (.iaload, 1) := by decide +kernel
theorem dX1_push_97 : decode cX1_push 97 = .ok (.iload_n 2, 1) := by decide +kernel
theorem dX1_push_98 : decode cX1_push 98 = .ok (.imul, 1) := by decide +kernel
theorem dX1_push_99 : decode cX1_push 99 = .ok (.aload_n 0, 1) := by decide +kernel
theorem dX1_push_100 : decode cX1_push 100 = .ok (.getfield 18, 3) := by decide +kernel
theorem dX1_push_103 : decode cX1_push 103 = .ok (.iload 5, 2) := by decide +kernel
theorem dX1_push_105 : decode cX1_push 105 = .ok (.iconst 3, 1) := by decide +kernel
theorem dX1_push_106 : decode cX1_push 106 = .ok (.imul, 1) := by decide +kernel
theorem dX1_push_107 : decode cX1_push 107 = .ok (.iconst 1, 1) := by decide +kernel
theorem dX1_push_108 : decode cX1_push 108 = .ok (.iadd, 1) := by decide +kernel
theorem dX1_push_109 : decode cX1_push 109 = .ok (.iaload, 1) := by decide +kernel
theorem dX1_push_110 : decode cX1_push 110 = .ok (.iload_n 3, 1) := by decide +kernel
theorem dX1_push_111 : decode cX1_push 111 = .ok (.imul, 1) := by decide +kernel
theorem dX1_push_112 : decode cX1_push 112 = .ok (.iadd, 1) := by decide +kernel
theorem dX1_push_113 : decode cX1_push 113 = .ok (.aload_n 0, 1) := by decide +kernel
theorem dX1_push_114 : decode cX1_push 114 = .ok (.getfield 18, 3) := by decide +kernel
theorem dX1_push_117 : decode cX1_push 117 = .ok (.iload 5, 2) := by decide +kernel
theorem dX1_push_119 : decode cX1_push 119 = .ok (.iconst 3, 1) := by decide +kernel
theorem dX1_push_120 : decode cX1_push 120 = .ok (.imul, 1) := by decide +kernel
theorem dX1_push_121 : decode cX1_push 121 = .ok (.iconst 2, 1) := by decide +kernel
theorem dX1_push_122 : decode cX1_push 122 = .ok (.iadd, 1) := by decide +kernel
theorem dX1_push_123 : decode cX1_push 123 = .ok (.iaload, 1) := by decide +kernel
theorem dX1_push_124 : decode cX1_push 124 = .ok (.iload 4, 2) := by decide +kernel
theorem dX1_push_126 : decode cX1_push 126 = .ok (.imul, 1) := by decide +kernel
theorem dX1_push_127 : decode cX1_push 127 = .ok (.iadd, 1) := by decide +kernel
theorem dX1_push_128 : decode cX1_push 128 = .ok (.i2f, 1) := by decide +kernel
theorem dX1_push_129 : decode cX1_push 129 = .ok (.ldc 107, 2) := by decide +kernel
theorem dX1_push_131 : decode cX1_push 131 = .ok (.fdiv, 1) := by decide +kernel
theorem dX1_push_132 : decode cX1_push 132 = .ok (.fastore, 1) := by decide +kernel
theorem dX1_push_133 : decode cX1_push 133 = .ok (.iinc 5 1, 3) := by decide +kernel
theorem dX1_push_136 : decode cX1_push 136 = .ok (.goto (-60), 3) := by decide +kernel
theorem dX1_push_139 : decode cX1_push 139 = .ok (.return_, 1) := by decide +kernel
set_option maxRecDepth 20000 in
theorem ggX1_push_X1_component : GoodIn wsX1_push wsX1_component := goodIn_r _ [9] rfl (by decide +kernel)
set_option maxRecDepth 20000 in
theorem gX1_push_X1_component : GoodIn wsX1_push (va_wsS RX1 103 yX1_component wsX1_component) := goodIn_app (goodIn_of _ (by decide +kernel)) ggX1_push_X1_component
theorem inX1_push_X1 : ∀ w ∈ u_ws RX1 TX1 10, w ∈ wsX1_push := fun w h => List.mem_cons_of_mem _ (List.mem_append_right _ h)
theorem inX1_push_X4 : ∀ w ∈ u_ws RX4 TX4 11, w ∈ wsX1_push := fun w h => List.mem_cons_of_mem _ (List.mem_append_left _ (List.mem_append_right _ h))
set_option maxRecDepth 100000 in
set_option maxHeartbeats 4000000 in
theorem m_X1_push {l : Launch} {D : va_G} {E : Nat → ClassId} {T : Nat → Nat} (pl : Nat) (h : Nat) (u0 : Value) (u1 : Value) (u6 : Value) (u7 : Value) (u8 : Value) (u9 : Value) (v0 : Value) (v1 : Value) (v3 : Value) (v4 : Value) (v5 : Value) (v6 : Value) (v7 : Value) (v8 : Value) (v9 : Value) (nw : Nat) (xa : Nat) (ba : Nat) (pa : Nat) (wq : Nat) (ck : Nat) (x : Nat → Int32) (b : Nat → Int32) (g : Nat → UInt32) (w : Nat → Int32) (hn : nw ≤ 6) (hck : ck < 2 ^ 31) : g_M l D E T yX1_push wsX1_push 1 23 [.ref pl, .ref h] [(pl, .inr (1, [u0, u1, .int (nI nw), .ref xa, .ref ba, .ref pa, u6, u7, u8, u9])), (h, .inr (4, [v0, v1, .ref wq, v3, v4, v5, v6, v7, v8, v9, .int (nI ck)])), (xa, .inl (E 0, 3, .inl x)), (ba, .inl (E 0, 12, .inl b)), (pa, .inl (E 1, 4, .inr (.inr (.inl g)))), (wq, .inl (E 0, 18, .inl w))] [(pl, .inr (1, [u0, u1, .int (nI nw), .ref xa, .ref ba, .ref pa, u6, u7, u8, u9])), (h, .inr (4, [v0, v1, .ref wq, v3, v4, v5, v6, v7, v8, v9, .int (nI ck)])), (xa, .inl (E 0, 3, .inl x)), (ba, .inl (E 0, 12, .inl b)), (pa, .inl (E 1, 4, .inr (.inr (.inl (epF b w nw ck x))))), (wq, .inl (E 0, 18, .inl w))] none := by
  refine g_M.of (cc := cX1_push) (nL := 6) (ret := none) (own := RX1) (lv := [(0, .ref pl), (1, .ref h)]) (by decide) rfl rfl (Nat.le_of_ble_eq_true rfl) rfl ?_
  intro p e R s m args below meth c A Q H locs ls hR hQ hc hr hw hl
  have hx := hc.1
  have hb := hc.2.1
  have hts := hc.2.2.2.1
  have hown := hc.2.2.2.2.1
  refine lv_aload_n hx hb dX1_push_0 rfl (lv_at hl 1 rfl) ?_
  refine g_getN (TT := TX4) hc hw inX1_push_X4 1 2 23 rfl rfl (by decide) rfl rfl dX1_push_1 ?_
  refine lv_aload_n hx hb dX1_push_4 rfl (lv_at hl 0 rfl) ?_
  refine g_get (TT := TX1) hc hw inX1_push_X1 0 2 1 rfl rfl (by decide) rfl rfl dX1_push_5 ?_
  refine lv_aload_n hx hb dX1_push_8 rfl (lv_at hl 1 rfl) ?_
  refine g_getN (TT := TX4) hc hw inX1_push_X4 1 10 40 rfl rfl (by decide) rfl rfl dX1_push_9 ?_
  refine lv_iconst (v := 0) hx hb dX1_push_12 (by decide) ?_
  refine g_cS (As := [.ref wq, .int (nI nw), .int (nI ck), .int 0]) (n := 4) (rest := []) (wc := [(wq, .inl (E 0, 18, .inl w))]) (w1 := [(wq, .inl (E 0, 18, .inl w))]) (bytes := cX1_component) (maxL := 4) (ret := (some .int)) hc hw hl.1 (m_X1_component (l := l) (D := D) (E := E) (T := T) wq w nw ck 0 (by first | assumption | omega | decide) (by first | assumption | omega | decide) (by first | assumption | omega | decide)) gX1_push_X1_component rfl (by decide +kernel) (by rw [hR]; exact ⟨Nat.le_of_ble_eq_true rfl, Nat.le_of_ble_eq_true rfl⟩) [5] (by decide) rfl [wq] rfl rfl rfl rfl (Nat.le_of_ble_eq_true rfl) dX1_push_13 ⟨Nat.zero_le _, Nat.zero_le _⟩ (fun H locs hw => ?_)
  have hw : g_W D A s [(pl, .inr (1, [u0, u1, .int (nI nw), .ref xa, .ref ba, .ref pa, u6, u7, u8, u9])), (h, .inr (4, [v0, v1, .ref wq, v3, v4, v5, v6, v7, v8, v9, .int (nI ck)])), (xa, .inl (E 0, 3, .inl x)), (ba, .inl (E 0, 12, .inl b)), (pa, .inl (E 1, 4, .inr (.inr (.inl g)))), (wq, .inl (E 0, 18, .inl w))] H locs := hw
  refine lv_aload_n hx hb dX1_push_16 rfl (lv_at hl 0 rfl) ?_
  refine g_get (TT := TX1) hc hw inX1_push_X1 0 3 2 rfl rfl (by decide) rfl rfl dX1_push_17 ?_
  refine lv_iconst (v := 0) hx hb dX1_push_20 (by decide) ?_
  refine g_ild hc hw 2 0 rfl rfl (by omega) (by decide) dX1_push_21 ?_
  refine lv_iadd hx hb dX1_push_22 ?_
  refine W.eq (congrArg (fun z => F0 m 23 ls (.int z :: [])) (show ((cmF w nw ck 0) + (x 0) : Int32) = cmX w nw ck x 0 from rfl)) ?_
  refine lv_istore_n (lv' := [(2, .int (cmX w nw ck x 0)), (0, .ref pl), (1, .ref h)]) hx hb dX1_push_23 rfl hl (by decide) rfl (fun ls hl => ?_)
  refine lv_aload_n hx hb dX1_push_24 rfl (lv_at hl 2 rfl) ?_
  refine g_getN (TT := TX4) hc hw inX1_push_X4 1 2 23 rfl rfl (by decide) rfl rfl dX1_push_25 ?_
  refine lv_aload_n hx hb dX1_push_28 rfl (lv_at hl 1 rfl) ?_
  refine g_get (TT := TX1) hc hw inX1_push_X1 0 2 1 rfl rfl (by decide) rfl rfl dX1_push_29 ?_
  refine lv_aload_n hx hb dX1_push_32 rfl (lv_at hl 2 rfl) ?_
  refine g_getN (TT := TX4) hc hw inX1_push_X4 1 10 40 rfl rfl (by decide) rfl rfl dX1_push_33 ?_
  refine lv_iconst (v := 1) hx hb dX1_push_36 (by decide) ?_
  refine g_cS (As := [.ref wq, .int (nI nw), .int (nI ck), .int 1]) (n := 4) (rest := []) (wc := [(wq, .inl (E 0, 18, .inl w))]) (w1 := [(wq, .inl (E 0, 18, .inl w))]) (bytes := cX1_component) (maxL := 4) (ret := (some .int)) hc hw hl.1 (m_X1_component (l := l) (D := D) (E := E) (T := T) wq w nw ck 1 (by first | assumption | omega | decide) (by first | assumption | omega | decide) (by first | assumption | omega | decide)) gX1_push_X1_component rfl (by decide +kernel) (by rw [hR]; exact ⟨Nat.le_of_ble_eq_true rfl, Nat.le_of_ble_eq_true rfl⟩) [5] (by decide) rfl [wq] rfl rfl rfl rfl (Nat.le_of_ble_eq_true rfl) dX1_push_37 ⟨Nat.zero_le _, Nat.zero_le _⟩ (fun H locs hw => ?_)
  have hw : g_W D A s [(pl, .inr (1, [u0, u1, .int (nI nw), .ref xa, .ref ba, .ref pa, u6, u7, u8, u9])), (h, .inr (4, [v0, v1, .ref wq, v3, v4, v5, v6, v7, v8, v9, .int (nI ck)])), (xa, .inl (E 0, 3, .inl x)), (ba, .inl (E 0, 12, .inl b)), (pa, .inl (E 1, 4, .inr (.inr (.inl g)))), (wq, .inl (E 0, 18, .inl w))] H locs := hw
  refine lv_aload_n hx hb dX1_push_40 rfl (lv_at hl 1 rfl) ?_
  refine g_get (TT := TX1) hc hw inX1_push_X1 0 3 2 rfl rfl (by decide) rfl rfl dX1_push_41 ?_
  refine lv_iconst (v := 1) hx hb dX1_push_44 (by decide) ?_
  refine g_ild hc hw 2 1 rfl rfl (by omega) (by decide) dX1_push_45 ?_
  refine lv_iadd hx hb dX1_push_46 ?_
  refine W.eq (congrArg (fun z => F0 m 47 ls (.int z :: [])) (show ((cmF w nw ck 1) + (x 1) : Int32) = cmX w nw ck x 1 from rfl)) ?_
  refine lv_istore_n (lv' := [(3, .int (cmX w nw ck x 1)), (2, .int (cmX w nw ck x 0)), (0, .ref pl), (1, .ref h)]) hx hb dX1_push_47 rfl hl (by decide) rfl (fun ls hl => ?_)
  refine lv_aload_n hx hb dX1_push_48 rfl (lv_at hl 3 rfl) ?_
  refine g_getN (TT := TX4) hc hw inX1_push_X4 1 2 23 rfl rfl (by decide) rfl rfl dX1_push_49 ?_
  refine lv_aload_n hx hb dX1_push_52 rfl (lv_at hl 2 rfl) ?_
  refine g_get (TT := TX1) hc hw inX1_push_X1 0 2 1 rfl rfl (by decide) rfl rfl dX1_push_53 ?_
  refine lv_aload_n hx hb dX1_push_56 rfl (lv_at hl 3 rfl) ?_
  refine g_getN (TT := TX4) hc hw inX1_push_X4 1 10 40 rfl rfl (by decide) rfl rfl dX1_push_57 ?_
  refine lv_iconst (v := 2) hx hb dX1_push_60 (by decide) ?_
  refine g_cS (As := [.ref wq, .int (nI nw), .int (nI ck), .int 2]) (n := 4) (rest := []) (wc := [(wq, .inl (E 0, 18, .inl w))]) (w1 := [(wq, .inl (E 0, 18, .inl w))]) (bytes := cX1_component) (maxL := 4) (ret := (some .int)) hc hw hl.1 (m_X1_component (l := l) (D := D) (E := E) (T := T) wq w nw ck 2 (by first | assumption | omega | decide) (by first | assumption | omega | decide) (by first | assumption | omega | decide)) gX1_push_X1_component rfl (by decide +kernel) (by rw [hR]; exact ⟨Nat.le_of_ble_eq_true rfl, Nat.le_of_ble_eq_true rfl⟩) [5] (by decide) rfl [wq] rfl rfl rfl rfl (Nat.le_of_ble_eq_true rfl) dX1_push_61 ⟨Nat.zero_le _, Nat.zero_le _⟩ (fun H locs hw => ?_)
  have hw : g_W D A s [(pl, .inr (1, [u0, u1, .int (nI nw), .ref xa, .ref ba, .ref pa, u6, u7, u8, u9])), (h, .inr (4, [v0, v1, .ref wq, v3, v4, v5, v6, v7, v8, v9, .int (nI ck)])), (xa, .inl (E 0, 3, .inl x)), (ba, .inl (E 0, 12, .inl b)), (pa, .inl (E 1, 4, .inr (.inr (.inl g)))), (wq, .inl (E 0, 18, .inl w))] H locs := hw
  refine lv_aload_n hx hb dX1_push_64 rfl (lv_at hl 2 rfl) ?_
  refine g_get (TT := TX1) hc hw inX1_push_X1 0 3 2 rfl rfl (by decide) rfl rfl dX1_push_65 ?_
  refine lv_iconst (v := 2) hx hb dX1_push_68 (by decide) ?_
  refine g_ild hc hw 2 2 rfl rfl (by omega) (by decide) dX1_push_69 ?_
  refine lv_iadd hx hb dX1_push_70 ?_
  refine W.eq (congrArg (fun z => F0 m 71 ls (.int z :: [])) (show ((cmF w nw ck 2) + (x 2) : Int32) = cmX w nw ck x 2 from rfl)) ?_
  refine lv_istore (lv' := [(4, .int (cmX w nw ck x 2)), (3, .int (cmX w nw ck x 1)), (2, .int (cmX w nw ck x 0)), (0, .ref pl), (1, .ref h)]) hx hb dX1_push_71 hl (by decide) rfl (fun ls hl => ?_)
  refine lv_iconst (v := 0) hx hb dX1_push_73 (by decide) ?_
  refine lv_istore (lv' := [(5, .int 0), (4, .int (cmX w nw ck x 2)), (3, .int (cmX w nw ck x 1)), (2, .int (cmX w nw ck x 0)), (0, .ref pl), (1, .ref h)]) hx hb dX1_push_74 hl (by decide) rfl (fun ls hl => ?_)
  have J76 : ∀ (k9 : Nat) (i : Nat), i + k9 = 4 → ∀ (H : Heap) (locs : List Loc) (ls : Array Slot), g_W D A s [(pl, .inr (1, [u0, u1, .int (nI nw), .ref xa, .ref ba, .ref pa, u6, u7, u8, u9])), (h, .inr (4, [v0, v1, .ref wq, v3, v4, v5, v6, v7, v8, v9, .int (nI ck)])), (xa, .inl (E 0, 3, .inl x)), (ba, .inl (E 0, 12, .inl b)), (pa, .inl (E 1, 4, .inr (.inr (.inl (amP 0 (epF b w nw ck x) g i))))), (wq, .inl (E 0, 18, .inl w))] H locs → lv_has ls 6 [(0, .ref pl), (1, .ref h), (2, .int (cmX w nw ck x 0)), (3, .int (cmX w nw ck x 1)), (4, .int (cmX w nw ck x 2)), (5, .int (nI i))] → W p l e R s m args below meth c H locs 0 0 Q (F0 m 76 ls []) := by
    intro k9
    induction k9 with
    | zero =>
      intro i h9   H locs ls hw hl
      have h9 : i = 4 := h9
      subst h9
      refine lv_iload hx hb dX1_push_76 (lv_at hl 5 rfl) ?_
      refine lv_iconst (v := 4) hx hb dX1_push_78 (by decide) ?_
      refine lv_icmp_ge (tgt := 139) hx hb dX1_push_79 (by decide) (fun c_79 => ?_) (fun c_79 => absurd (by first | exact Int32.le_refl _ | decide) c_79)
      have hw := g_reF (q0 := 4) (g := epF b w nw ck x) hw rfl (ep_4 _ g)
      have hw : g_W D A s [(pl, .inr (1, [u0, u1, .int (nI nw), .ref xa, .ref ba, .ref pa, u6, u7, u8, u9])), (h, .inr (4, [v0, v1, .ref wq, v3, v4, v5, v6, v7, v8, v9, .int (nI ck)])), (xa, .inl (E 0, 3, .inl x)), (ba, .inl (E 0, 12, .inl b)), (pa, .inl (E 1, 4, .inr (.inr (.inl (epF b w nw ck x))))), (wq, .inl (E 0, 18, .inl w))] H locs := hw
      exact g_vret hQ hc hw hr rfl rfl dX1_push_139
    | succ k9 ih =>
      intro i h9   H locs ls hw hl
      have h9b : i < 4 := by omega
      refine lv_iload hx hb dX1_push_76 (lv_at hl 5 rfl) ?_
      refine lv_iconst (v := 4) hx hb dX1_push_78 (by decide) ?_
      refine lv_icmp_ge (tgt := 139) hx hb dX1_push_79 (by decide) (fun c_79 => absurd c_79 (nI_ge h9b (by decide))) (fun c_79 => ?_)
      refine lv_aload_n hx hb dX1_push_82 rfl (lv_at hl 0 rfl) ?_
      refine g_get (TT := TX1) hc hw inX1_push_X1 0 5 3 rfl rfl (by decide) rfl rfl dX1_push_83 ?_
      refine lv_iload hx hb dX1_push_86 (lv_at hl 5 rfl) ?_
      refine lv_aload_n hx hb dX1_push_88 rfl (lv_at hl 0 rfl) ?_
      refine g_get (TT := TX1) hc hw inX1_push_X1 0 4 4 rfl rfl (by decide) rfl rfl dX1_push_89 ?_
      refine lv_iload hx hb dX1_push_92 (lv_at hl 5 rfl) ?_
      refine lv_iconst (v := 3) hx hb dX1_push_94 (by decide) ?_
      refine lv_imul hx hb dX1_push_95 ?_
      refine g_ild hc hw 3 (i * 3) rfl (n_mul rfl rfl) (by omega) (by decide) dX1_push_96 ?_
      refine lv_iload_n hx hb dX1_push_97 rfl (lv_at hl 2 rfl) ?_
      refine lv_imul hx hb dX1_push_98 ?_
      refine lv_aload_n hx hb dX1_push_99 rfl (lv_at hl 0 rfl) ?_
      refine g_get (TT := TX1) hc hw inX1_push_X1 0 4 4 rfl rfl (by decide) rfl rfl dX1_push_100 ?_
      refine lv_iload hx hb dX1_push_103 (lv_at hl 5 rfl) ?_
      refine lv_iconst (v := 3) hx hb dX1_push_105 (by decide) ?_
      refine lv_imul hx hb dX1_push_106 ?_
      refine lv_iconst (v := 1) hx hb dX1_push_107 (by decide) ?_
      refine lv_iadd hx hb dX1_push_108 ?_
      refine g_ild hc hw 3 ((i * 3) + 1) rfl (n_add (n_mul rfl rfl) rfl) (by omega) (by decide) dX1_push_109 ?_
      refine lv_iload_n hx hb dX1_push_110 rfl (lv_at hl 3 rfl) ?_
      refine lv_imul hx hb dX1_push_111 ?_
      refine lv_iadd hx hb dX1_push_112 ?_
      refine lv_aload_n hx hb dX1_push_113 rfl (lv_at hl 0 rfl) ?_
      refine g_get (TT := TX1) hc hw inX1_push_X1 0 4 4 rfl rfl (by decide) rfl rfl dX1_push_114 ?_
      refine lv_iload hx hb dX1_push_117 (lv_at hl 5 rfl) ?_
      refine lv_iconst (v := 3) hx hb dX1_push_119 (by decide) ?_
      refine lv_imul hx hb dX1_push_120 ?_
      refine lv_iconst (v := 2) hx hb dX1_push_121 (by decide) ?_
      refine lv_iadd hx hb dX1_push_122 ?_
      refine g_ild hc hw 3 ((i * 3) + 2) rfl (n_add (n_mul rfl rfl) rfl) (by omega) (by decide) dX1_push_123 ?_
      refine lv_iload hx hb dX1_push_124 (lv_at hl 4 rfl) ?_
      refine lv_imul hx hb dX1_push_126 ?_
      refine lv_iadd hx hb dX1_push_127 ?_
      refine lv_i2f hx hb dX1_push_128 ?_
      refine lv_ldcf (v := 1082130432) hx hb hown (hts _ (List.mem_of_getElem? (i := 5) rfl)) dX1_push_129 ?_
      refine lv_fdiv hx hb dX1_push_131 (g_nn (g_mgdiv (K := 159) (L := 129) (g_mgi _) (by decide) (by decide) (by decide) (by decide)) (by decide)) ?_
      refine g_fst hc hw 4 i rfl rfl (by omega) (by decide) dX1_push_132 (fun H locs hw => ?_)
      have hw : g_W D A s [(pl, .inr (1, [u0, u1, .int (nI nw), .ref xa, .ref ba, .ref pa, u6, u7, u8, u9])), (h, .inr (4, [v0, v1, .ref wq, v3, v4, v5, v6, v7, v8, v9, .int (nI ck)])), (xa, .inl (E 0, 3, .inl x)), (ba, .inl (E 0, 12, .inl b)), (pa, .inl (E 1, 4, .inr (.inr (.inl (vf_upd (amP 0 (epF b w nw ck x) g i) i (FP.fdiv (FP.i2f ((((b (i * 3)) * (cmX w nw ck x 0)) + ((b ((i * 3) + 1)) * (cmX w nw ck x 1))) + ((b ((i * 3) + 2)) * (cmX w nw ck x 2)))) 1082130432)))))), (wq, .inl (E 0, 18, .inl w))] H locs := hw
      refine lv_iinc (v := nI (i + 1)) (lv' := [(5, .int (nI (i + 1))), (0, .ref pl), (1, .ref h), (2, .int (cmX w nw ck x 0)), (3, .int (cmX w nw ck x 1)), (4, .int (cmX w nw ck x 2))]) hx hb dX1_push_133 hl (k := 5) rfl (n_inc1 rfl) (by decide) rfl (fun ls hl => ?_)
      refine lv_goto (tgt := 76) hx hb dX1_push_136 (by decide) ?_
      have hw : g_W D A s [(pl, .inr (1, [u0, u1, .int (nI nw), .ref xa, .ref ba, .ref pa, u6, u7, u8, u9])), (h, .inr (4, [v0, v1, .ref wq, v3, v4, v5, v6, v7, v8, v9, .int (nI ck)])), (xa, .inl (E 0, 3, .inl x)), (ba, .inl (E 0, 12, .inl b)), (pa, .inl (E 1, 4, .inr (.inr (.inl (amP 0 (epF b w nw ck x) g (i + 1)))))), (wq, .inl (E 0, 18, .inl w))] H locs := by
        have e4 : (vf_upd (amP 0 (epF b w nw ck x) g i) i (FP.fdiv (FP.i2f ((((b (i * 3)) * (cmX w nw ck x 0)) + ((b ((i * 3) + 1)) * (cmX w nw ck x 1))) + ((b ((i * 3) + 2)) * (cmX w nw ck x 2)))) 1082130432)) = (amP 0 (epF b w nw ck x) g (i + 1)) := by exact am_step g (Nat.zero_testBit i) rfl
        rw [e4] at hw
        exact hw
      exact ih (i + 1) (by omega)   _ _ _ hw (lv_sub hl [1, 2, 3, 4, 5, 0] rfl)
  have hw : g_W D A s [(pl, .inr (1, [u0, u1, .int (nI nw), .ref xa, .ref ba, .ref pa, u6, u7, u8, u9])), (h, .inr (4, [v0, v1, .ref wq, v3, v4, v5, v6, v7, v8, v9, .int (nI ck)])), (xa, .inl (E 0, 3, .inl x)), (ba, .inl (E 0, 12, .inl b)), (pa, .inl (E 1, 4, .inr (.inr (.inl (amP 0 (epF b w nw ck x) g 0))))), (wq, .inl (E 0, 18, .inl w))] H locs := by
    have e4 : g = (amP 0 (epF b w nw ck x) g 0) := by exact am_0 0 _ g
    rw [e4] at hw
    exact hw
  exact J76 4 0 (by omega)   _ _ _ hw (lv_sub hl [4, 5, 3, 2, 1, 0] rfl)

theorem dX1_weigh_0 : decode cX1_weigh 0 = .ok (.aload_n 0, 1) := by decide +kernel
theorem dX1_weigh_1 : decode cX1_weigh 1 = .ok (.iconst 0, 1) := by decide +kernel
theorem dX1_weigh_2 : decode cX1_weigh 2 = .ok (.putfield 81, 3) := by decide +kernel
theorem dX1_weigh_5 : decode cX1_weigh 5 = .ok (.aload_n 0, 1) := by decide +kernel
theorem dX1_weigh_6 : decode cX1_weigh 6 = .ok (.fconst 0, 1) := by decide +kernel
theorem dX1_weigh_7 : decode cX1_weigh 7 = .ok (.putfield 84, 3) := by decide +kernel
theorem dX1_weigh_10 : decode cX1_weigh 10 = .ok (.iconst 0, 1) := by decide +kernel
theorem dX1_weigh_11 : decode cX1_weigh 11 = .ok (.istore_n 3, 1) := by decide +kernel
theorem dX1_weigh_12 : decode cX1_weigh 12 = .ok (.iload_n 3, 1) := by decide +kernel
theorem dX1_weigh_13 : decode cX1_weigh 13 = .ok (.iconst 4, 1) := by decide +kernel
theorem dX1_weigh_14 : decode cX1_weigh 14 = .ok (.if_icmp .ge 89, 3) := by decide +kernel
theorem dX1_weigh_17 : decode cX1_weigh 17 = .ok (.aload_n 1, 1) := by decide +kernel
theorem dX1_weigh_18 : decode cX1_weigh 18 = .ok (.iload_n 3, 1) := by decide +kernel
theorem dX1_weigh_19 : decode cX1_weigh 19 = .ok (.invokevirtual 90, 3) := by decide +kernel
theorem dX1_weigh_22 : decode cX1_weigh 22 = .ok (.ifCond .ne 75, 3) := by decide +kernel
theorem dX1_weigh_25 : decode cX1_weigh 25 = .ok (.aload_n 1, 1) := by decide +kernel
theorem dX1_weigh_26 : decode cX1_weigh 26 = .ok (.getfield 108, 3) := by decide +kernel
theorem dX1_weigh_29 : decode cX1_weigh 29 = .ok (.iload_n 3, 1) := by decide +kernel
theorem dX1_weigh_30 : decode cX1_weigh 30 = .ok (.faload, 1) := by decide +kernel
theorem dX1_weigh_31 : decode cX1_weigh 31 = .ok (.aload_n 0, 1) := by decide +kernel
theorem dX1_weigh_32 : decode cX1_weigh 32 = .ok (.getfield 21, 3) := by decide +kernel
theorem dX1_weigh_35 : decode cX1_weigh 35 = .ok (.iload_n 3, 1) := by decide +kernel
theorem dX1_weigh_36 : decode cX1_weigh 36 = .ok (.faload, 1) := by decide +kernel
theorem dX1_weigh_37 : decode cX1_weigh 37 = .ok (.iload_n 2, 1) := by decide +kernel
theorem dX1_weigh_38 : decode cX1_weigh 38 = .ok (.i2f, 1) := by decide +kernel
theorem dX1_weigh_39 : decode cX1_weigh 39 = .ok (.fadd, 1) := by decide +kernel
theorem dX1_weigh_40 : decode cX1_weigh 40 = .ok (.fadd, 1) := by decide +kernel
theorem dX1_weigh_41 : decode cX1_weigh 41 = .ok (.fstore 4, 2) := by decide +kernel
theorem dX1_weigh_43 : decode cX1_weigh 43 = .ok (.fload 4, 2) := by decide +kernel
theorem dX1_weigh_45 : decode cX1_weigh 45 = .ok (.invokestatic 111, 3) := by decide +kernel
theorem dX1_weigh_48 : decode cX1_weigh 48 = .ok (.fstore 5, 2) := by decide +kernel
theorem dX1_weigh_50 : decode cX1_weigh 50 = .ok (.aload_n 0, 1) := by decide +kernel
theorem dX1_weigh_51 : decode cX1_weigh 51 = .ok (.getfield 25, 3) := by decide +kernel
theorem dX1_weigh_54 : decode cX1_weigh 54 = .ok (.iload_n 3, 1) := by decide +kernel
theorem dX1_weigh_55 : decode cX1_weigh 55 = .ok (.fload 4, 2) := by decide +kernel
theorem dX1_weigh_57 : decode cX1_weigh 57 = .ok (.fastore, 1) := by decide +kernel
theorem dX1_weigh_58 : decode cX1_weigh 58 = .ok (.fload 5, 2) := by decide +kernel
theorem dX1_weigh_60 : decode cX1_weigh 60 = .ok (.aload_n 1, 1) := by decide +kernel
theorem dX1_weigh_61 : decode cX1_weigh 61 = .ok (.getfield 115, 3) := by decide +kernel
theorem dX1_weigh_64 : decode cX1_weigh 64 = .ok (.iconst 1, 1) := by decide +kernel
theorem dX1_weigh_65 : decode cX1_weigh 65 = .ok (.iaload, 1) := by decide +kernel
theorem dX1_weigh_66 : decode cX1_weigh 66 = .ok (.i2f, 1) := by decide +kernel
theorem dX1_weigh_67 : decode cX1_weigh 67 = .ok (.fcmp .g, 1) := by decide +kernel
theorem dX1_weigh_68 : decode cX1_weigh 68 = .ok (.ifCond .ge 13, 3) := by decide +kernel
theorem dX1_weigh_71 : decode cX1_weigh 71 = .ok (.aload_n 0, 1) := by decide +kernel
theorem dX1_weigh_72 : decode cX1_weigh 72 = .ok (.dup, 1) := by decide +kernel
theorem dX1_weigh_73 : decode cX1_weigh 73 = .ok (.getfield 81, 3) := by decide +kernel
theorem dX1_weigh_76 : decode cX1_weigh 76 = .ok (.iconst 1, 1) := by decide +kernel
theorem dX1_weigh_77 : decode cX1_weigh 77 = .ok (.iadd, 1) := by decide +kernel
theorem dX1_weigh_78 : decode cX1_weigh 78 = .ok (.putfield 81, 3) := by decide +kernel
theorem dX1_weigh_81 : decode cX1_weigh 81 = .ok (.fload 5, 2) := by decide +kernel
theorem dX1_weigh_83 : decode cX1_weigh 83 = .ok (.aload_n 0, 1) := by decide +kernel
theorem dX1_weigh_84 : decode cX1_weigh 84 = .ok (.getfield 84, 3) := by decide +kernel
theorem dX1_weigh_87 : decode cX1_weigh 87 = .ok (.fcmp .l, 1) := by decide +kernel
theorem dX1_weigh_88 : decode cX1_weigh 88 = .ok (.ifCond .le 9, 3) := by decide +kernel
theorem dX1_weigh_91 : decode cX1_weigh 91 = .ok (.aload_n 0, 1) := by decide +kernel
theorem dX1_weigh_92 : decode cX1_weigh 92 = .ok (.fload 5, 2) := by decide +kernel
theorem dX1_weigh_94 : decode cX1_weigh 94 = .ok (.putfield 84, 3) := by decide +kernel
theorem dX1_weigh_97 : decode cX1_weigh 97 = .ok (.iinc 3 1, 3) := by decide +kernel
theorem dX1_weigh_100 : decode cX1_weigh 100 = .ok (.goto (-88), 3) := by decide +kernel
theorem dX1_weigh_103 : decode cX1_weigh 103 = .ok (.return_, 1) := by decide +kernel
set_option maxRecDepth 20000 in
theorem ggX1_weigh_X4_isDead : GoodIn wsX1_weigh wsX4_isDead := goodIn_r _ [8, 9, 23, 24, 25, 26, 27, 28, 29, 30, 31, 32, 33] rfl (by decide +kernel)
set_option maxRecDepth 20000 in
theorem ggX1_weigh_X5_sizeOf : GoodIn wsX1_weigh wsX5_sizeOf := goodIn_r _ [12] rfl (by decide +kernel)
theorem inX1_weigh_X1 : ∀ w ∈ u_ws RX1 TX1 10, w ∈ wsX1_weigh := fun w h => List.mem_cons_of_mem _ (List.mem_append_left _ (List.mem_append_right _ h))
theorem inX1_weigh_X4 : ∀ w ∈ u_ws RX4 TX4 11, w ∈ wsX1_weigh := fun w h => List.mem_cons_of_mem _ (List.mem_append_right _ h)
set_option maxRecDepth 100000 in
set_option maxHeartbeats 4000000 in
theorem m_X1_weigh {l : Launch} {D : va_G} {E : Nat → ClassId} {T : Nat → Nat} (pl : Nat) (h : Nat) (u0 : Value) (u1 : Value) (u2 : Value) (u3 : Value) (u4 : Value) (u7 : Value) (u8 : Value) (u9 : Value) (v2 : Value) (v4 : Value) (v5 : Value) (v6 : Value) (v7 : Value) (v8 : Value) (v9 : Value) (v10 : Value) (pa : Nat) (aa : Nat) (hs : Nat) (ht : Nat) (d : Nat) (e0 : Nat → UInt32) (g : Nat → UInt32) (f : Nat → UInt32) (t : Nat → Int32) (c0 : Int32) (hd : d < 16) (hf : ∀ j, j < 4 → g_mg 135 (f j)) (he : ∀ j, j < 4 → g_mg 159 (e0 j)) : g_M l D E T yX1_weigh wsX1_weigh 1 21 [.ref pl, .ref h, .int c0] [(pl, .inr (1, [u0, u1, u2, u3, u4, .ref pa, .ref aa, u7, u8, u9])), (h, .inr (4, [.ref hs, .ref ht, v2, .int (nI d), v4, v5, v6, v7, v8, v9, v10])), (pa, .inl (E 1, 4, .inr (.inr (.inl e0)))), (aa, .inl (E 1, 4, .inr (.inr (.inl g)))), (hs, .inl (E 1, 4, .inr (.inr (.inl f)))), (ht, .inl (E 0, 4, .inl t))] [(pl, .inr (1, [u0, u1, u2, u3, u4, .ref pa, .ref aa, u7, .int (neF d (FP.i2f (t 1)) (aiF f e0 c0) 4), .float (heF d (aiF f e0 c0) 4)])), (h, .inr (4, [.ref hs, .ref ht, v2, .int (nI d), v4, v5, v6, v7, v8, v9, v10])), (pa, .inl (E 1, 4, .inr (.inr (.inl e0)))), (aa, .inl (E 1, 4, .inr (.inr (.inl (amP d (aiF f e0 c0) g 4))))), (hs, .inl (E 1, 4, .inr (.inr (.inl f)))), (ht, .inl (E 0, 4, .inl t))] none := by
  refine g_M.of (cc := cX1_weigh) (nL := 6) (ret := none) (own := RX1) (lv := [(0, .ref pl), (1, .ref h), (2, .int c0)]) (by decide) rfl rfl (Nat.le_of_ble_eq_true rfl) rfl ?_
  intro p e R s m args below meth c A Q H locs ls hR hQ hc hr hw hl
  have hx := hc.1
  have hb := hc.2.1
  have hts := hc.2.2.2.1
  have hown := hc.2.2.2.2.1
  refine lv_aload_n hx hb dX1_weigh_0 rfl (lv_at hl 0 rfl) ?_
  refine lv_iconst (v := 0) hx hb dX1_weigh_1 (by decide) ?_
  refine g_put (TT := TX1) hc hw inX1_weigh_X1 tyX1 tyX1_ok nmX1 0 8 1 rfl rfl (by decide) rfl rfl rfl rfl (Nat.le_of_ble_eq_true rfl) dX1_weigh_2 (fun H locs hw => ?_)
  have hw : g_W D A s [(pl, .inr (1, [u0, u1, u2, u3, u4, .ref pa, .ref aa, u7, .int 0, u9])), (h, .inr (4, [.ref hs, .ref ht, v2, .int (nI d), v4, v5, v6, v7, v8, v9, v10])), (pa, .inl (E 1, 4, .inr (.inr (.inl e0)))), (aa, .inl (E 1, 4, .inr (.inr (.inl g)))), (hs, .inl (E 1, 4, .inr (.inr (.inl f)))), (ht, .inl (E 0, 4, .inl t))] H locs := hw
  refine lv_aload_n hx hb dX1_weigh_5 rfl (lv_at hl 0 rfl) ?_
  refine lv_fconst0 hx hb dX1_weigh_6 ?_
  refine g_put (TT := TX1) hc hw inX1_weigh_X1 tyX1 tyX1_ok nmX1 0 9 2 rfl rfl (by decide) rfl rfl rfl rfl (Nat.le_of_ble_eq_true rfl) dX1_weigh_7 (fun H locs hw => ?_)
  have hw : g_W D A s [(pl, .inr (1, [u0, u1, u2, u3, u4, .ref pa, .ref aa, u7, .int 0, .float FP.fconst0])), (h, .inr (4, [.ref hs, .ref ht, v2, .int (nI d), v4, v5, v6, v7, v8, v9, v10])), (pa, .inl (E 1, 4, .inr (.inr (.inl e0)))), (aa, .inl (E 1, 4, .inr (.inr (.inl g)))), (hs, .inl (E 1, 4, .inr (.inr (.inl f)))), (ht, .inl (E 0, 4, .inl t))] H locs := hw
  refine lv_iconst (v := 0) hx hb dX1_weigh_10 (by decide) ?_
  refine lv_istore_n (lv' := [(3, .int 0), (0, .ref pl), (1, .ref h), (2, .int c0)]) hx hb dX1_weigh_11 rfl hl (by decide) rfl (fun ls hl => ?_)
  have J12 : ∀ (k9 : Nat) (i : Nat), i + k9 = 4 → ∀ (H : Heap) (locs : List Loc) (ls : Array Slot), g_W D A s [(pl, .inr (1, [u0, u1, u2, u3, u4, .ref pa, .ref aa, u7, .int (neF d (FP.i2f (t 1)) (aiF f e0 c0) i), .float (heF d (aiF f e0 c0) i)])), (h, .inr (4, [.ref hs, .ref ht, v2, .int (nI d), v4, v5, v6, v7, v8, v9, v10])), (pa, .inl (E 1, 4, .inr (.inr (.inl e0)))), (aa, .inl (E 1, 4, .inr (.inr (.inl (amP d (aiF f e0 c0) g i))))), (hs, .inl (E 1, 4, .inr (.inr (.inl f)))), (ht, .inl (E 0, 4, .inl t))] H locs → lv_has ls 6 [(0, .ref pl), (1, .ref h), (2, .int c0), (3, .int (nI i))] → W p l e R s m args below meth c H locs 0 0 Q (F0 m 12 ls []) := by
    intro k9
    induction k9 with
    | zero =>
      intro i h9   H locs ls hw hl
      have h9 : i = 4 := h9
      subst h9
      refine lv_iload_n hx hb dX1_weigh_12 rfl (lv_at hl 3 rfl) ?_
      refine lv_iconst (v := 4) hx hb dX1_weigh_13 (by decide) ?_
      refine lv_icmp_ge (tgt := 103) hx hb dX1_weigh_14 (by decide) (fun c_14 => ?_) (fun c_14 => absurd (by first | exact Int32.le_refl _ | decide) c_14)
      exact g_vret hQ hc hw hr rfl rfl dX1_weigh_103
    | succ k9 ih =>
      intro i h9   H locs ls hw hl
      have h9b : i < 4 := by omega
      refine lv_iload_n hx hb dX1_weigh_12 rfl (lv_at hl 3 rfl) ?_
      refine lv_iconst (v := 4) hx hb dX1_weigh_13 (by decide) ?_
      refine lv_icmp_ge (tgt := 103) hx hb dX1_weigh_14 (by decide) (fun c_14 => absurd c_14 (nI_ge h9b (by decide))) (fun c_14 => ?_)
      refine lv_aload_n hx hb dX1_weigh_17 rfl (lv_at hl 1 rfl) ?_
      refine lv_iload_n hx hb dX1_weigh_18 rfl (lv_at hl 3 rfl) ?_
      refine g_cVN (As := [.int (nI i)]) (n := 1) (rest := []) (wc := [(h, .inr (4, [.ref hs, .ref ht, v2, .int (nI d), v4, v5, v6, v7, v8, v9, v10]))]) (w1 := [(h, .inr (4, [.ref hs, .ref ht, v2, .int (nI d), v4, v5, v6, v7, v8, v9, v10]))]) (bytes := cX4_isDead) (maxL := 2) (ret := (some .boolean)) hc hw hl.1 (m_X4_isDead (l := l) (D := D) (E := E) (T := T) h (.ref hs) (.ref ht) v2 v4 v5 v6 v7 v8 v9 v10 d i (by first | assumption | omega | decide) (by first | assumption | omega | decide)) ggX1_weigh_X4_isDead rfl 59 rfl 6 5 7 rfl rfl rfl (by decide +kernel) (by rw [hR]; exact ⟨Nat.le_of_ble_eq_true rfl, Nat.le_of_ble_eq_true rfl⟩) [1] 1 4 rfl rfl (by decide) rfl [h] rfl rfl rfl rfl (Nat.le_of_ble_eq_true rfl) dX1_weigh_19 ⟨Nat.zero_le _, Nat.zero_le _⟩ (fun H locs hw => ?_)
      have hw : g_W D A s [(pl, .inr (1, [u0, u1, u2, u3, u4, .ref pa, .ref aa, u7, .int (neF d (FP.i2f (t 1)) (aiF f e0 c0) i), .float (heF d (aiF f e0 c0) i)])), (h, .inr (4, [.ref hs, .ref ht, v2, .int (nI d), v4, v5, v6, v7, v8, v9, v10])), (pa, .inl (E 1, 4, .inr (.inr (.inl e0)))), (aa, .inl (E 1, 4, .inr (.inr (.inl (amP d (aiF f e0 c0) g i))))), (hs, .inl (E 1, 4, .inr (.inr (.inl f)))), (ht, .inl (E 0, 4, .inl t))] H locs := hw
      refine lv_if_ne (tgt := 97) hx hb dX1_weigh_22 (by decide) (fun c_22 => ?_) (fun c_22 => ?_)
      · skip
        have k_22 := b2i_ne c_22
        refine lv_iinc (v := nI (i + 1)) (lv' := [(3, .int (nI (i + 1))), (0, .ref pl), (1, .ref h), (2, .int c0)]) hx hb dX1_weigh_97 hl (k := 3) rfl (n_inc1 rfl) (by decide) rfl (fun ls hl => ?_)
        refine lv_goto (tgt := 12) hx hb dX1_weigh_100 (by decide) ?_
        have hw : g_W D A s [(pl, .inr (1, [u0, u1, u2, u3, u4, .ref pa, .ref aa, u7, .int (neF d (FP.i2f (t 1)) (aiF f e0 c0) (i + 1)), .float (heF d (aiF f e0 c0) (i + 1))])), (h, .inr (4, [.ref hs, .ref ht, v2, .int (nI d), v4, v5, v6, v7, v8, v9, v10])), (pa, .inl (E 1, 4, .inr (.inr (.inl e0)))), (aa, .inl (E 1, 4, .inr (.inr (.inl (amP d (aiF f e0 c0) g (i + 1)))))), (hs, .inl (E 1, 4, .inr (.inr (.inl f)))), (ht, .inl (E 0, 4, .inl t))] H locs := by
          have e0_8 : (.int (neF d (FP.i2f (t 1)) (aiF f e0 c0) i) : Value) = .int (neF d (FP.i2f (t 1)) (aiF f e0 c0) (i + 1)) := by simp [neF, heF, k_22]
          rw [e0_8] at hw
          have e0_9 : (.float (heF d (aiF f e0 c0) i) : Value) = .float (heF d (aiF f e0 c0) (i + 1)) := by simp [neF, heF, k_22]
          rw [e0_9] at hw
          have e3 : (amP d (aiF f e0 c0) g i) = (amP d (aiF f e0 c0) g (i + 1)) := by exact am_skip _ g k_22
          rw [e3] at hw
          exact hw
        exact ih (i + 1) (by omega)   _ _ _ hw (lv_sub hl [1, 2, 3, 0] rfl)
      · skip
        have k_22 := b2i_eq c_22
        refine lv_aload_n hx hb dX1_weigh_25 rfl (lv_at hl 1 rfl) ?_
        refine g_getN (TT := TX4) hc hw inX1_weigh_X4 1 0 17 rfl rfl (by decide) rfl rfl dX1_weigh_26 ?_
        refine lv_iload_n hx hb dX1_weigh_29 rfl (lv_at hl 3 rfl) ?_
        refine g_fld hc hw 4 i rfl rfl (by omega) (by decide) dX1_weigh_30 ?_
        refine lv_aload_n hx hb dX1_weigh_31 rfl (lv_at hl 0 rfl) ?_
        refine g_get (TT := TX1) hc hw inX1_weigh_X1 0 5 3 rfl rfl (by decide) rfl rfl dX1_weigh_32 ?_
        refine lv_iload_n hx hb dX1_weigh_35 rfl (lv_at hl 3 rfl) ?_
        refine g_fld hc hw 2 i rfl rfl (by omega) (by decide) dX1_weigh_36 ?_
        refine lv_iload_n hx hb dX1_weigh_37 rfl (lv_at hl 2 rfl) ?_
        refine lv_i2f hx hb dX1_weigh_38 ?_
        refine lv_fadd hx hb dX1_weigh_39 (g_nn (g_mgadd (Ka := 159) (Kb := 160) (K := 160) (he i (by omega)) (g_mgi _) (by decide) (by decide) (by decide)) (by decide)) ?_
        refine lv_fadd hx hb dX1_weigh_40 (g_nn (g_mgadd (Ka := 135) (Kb := 162) (K := 162) (hf i (by omega)) (g_mgadd (Ka := 159) (Kb := 160) (K := 160) (he i (by omega)) (g_mgi _) (by decide) (by decide) (by decide)) (by decide) (by decide) (by decide)) (by decide)) ?_
        refine W.eq (congrArg (fun z => F0 m 41 ls (.float z :: [])) (show (FP.fadd (f i) (FP.fadd (e0 i) (FP.i2f c0)) : UInt32) = aiF f e0 c0 i from rfl)) ?_
        refine lv_fstore (lv' := [(4, .float (aiF f e0 c0 i)), (0, .ref pl), (1, .ref h), (2, .int c0), (3, .int (nI i))]) hx hb dX1_weigh_41 hl (by decide) rfl (fun ls hl => ?_)
        refine lv_fload hx hb dX1_weigh_43 (lv_at hl 0 rfl) ?_
        refine g_cSN (As := [.float (aiF f e0 c0 i)]) (n := 1) (rest := []) (wc := []) (w1 := []) (bytes := cX5_sizeOf) (maxL := 1) (ret := (some .float)) hc hw hl.1 (m_X5_sizeOf (l := l) (D := D) (E := E) (T := T) (aiF f e0 c0 i)) ggX1_weigh_X5_sizeOf rfl 62 rfl 11 10 rfl rfl (by decide +kernel) (by rw [hR]; exact ⟨Nat.le_of_ble_eq_true rfl, Nat.le_of_ble_eq_true rfl⟩) [] (by decide) rfl [] rfl rfl rfl rfl (Nat.le_of_ble_eq_true rfl) dX1_weigh_45 ⟨Nat.zero_le _, Nat.zero_le _⟩ (fun H locs hw => ?_)
        have hw : g_W D A s [(pl, .inr (1, [u0, u1, u2, u3, u4, .ref pa, .ref aa, u7, .int (neF d (FP.i2f (t 1)) (aiF f e0 c0) i), .float (heF d (aiF f e0 c0) i)])), (h, .inr (4, [.ref hs, .ref ht, v2, .int (nI d), v4, v5, v6, v7, v8, v9, v10])), (pa, .inl (E 1, 4, .inr (.inr (.inl e0)))), (aa, .inl (E 1, 4, .inr (.inr (.inl (amP d (aiF f e0 c0) g i))))), (hs, .inl (E 1, 4, .inr (.inr (.inl f)))), (ht, .inl (E 0, 4, .inl t))] H locs := hw
        refine lv_fstore (lv' := [(5, .float (fsz (aiF f e0 c0 i))), (4, .float (aiF f e0 c0 i)), (0, .ref pl), (1, .ref h), (2, .int c0), (3, .int (nI i))]) hx hb dX1_weigh_48 hl (by decide) rfl (fun ls hl => ?_)
        refine lv_aload_n hx hb dX1_weigh_50 rfl (lv_at hl 2 rfl) ?_
        refine g_get (TT := TX1) hc hw inX1_weigh_X1 0 6 4 rfl rfl (by decide) rfl rfl dX1_weigh_51 ?_
        refine lv_iload_n hx hb dX1_weigh_54 rfl (lv_at hl 5 rfl) ?_
        refine lv_fload hx hb dX1_weigh_55 (lv_at hl 1 rfl) ?_
        refine g_fst hc hw 3 i rfl rfl (by omega) (by decide) dX1_weigh_57 (fun H locs hw => ?_)
        have hw : g_W D A s [(pl, .inr (1, [u0, u1, u2, u3, u4, .ref pa, .ref aa, u7, .int (neF d (FP.i2f (t 1)) (aiF f e0 c0) i), .float (heF d (aiF f e0 c0) i)])), (h, .inr (4, [.ref hs, .ref ht, v2, .int (nI d), v4, v5, v6, v7, v8, v9, v10])), (pa, .inl (E 1, 4, .inr (.inr (.inl e0)))), (aa, .inl (E 1, 4, .inr (.inr (.inl (vf_upd (amP d (aiF f e0 c0) g i) i (aiF f e0 c0 i)))))), (hs, .inl (E 1, 4, .inr (.inr (.inl f)))), (ht, .inl (E 0, 4, .inl t))] H locs := hw
        refine lv_fload hx hb dX1_weigh_58 (lv_at hl 0 rfl) ?_
        refine lv_aload_n hx hb dX1_weigh_60 rfl (lv_at hl 3 rfl) ?_
        refine g_getN (TT := TX4) hc hw inX1_weigh_X4 1 1 19 rfl rfl (by decide) rfl rfl dX1_weigh_61 ?_
        refine lv_iconst (v := 1) hx hb dX1_weigh_64 (by decide) ?_
        refine g_ild hc hw 5 1 rfl rfl (by omega) (by decide) dX1_weigh_65 ?_
        refine lv_i2f hx hb dX1_weigh_66 ?_
        refine lv_fcmp hx hb dX1_weigh_67 ?_
        refine lv_if_ge (tgt := 81) hx hb dX1_weigh_68 (by decide) (fun c_68 => ?_) (fun c_68 => ?_)
        · skip
          have k_68 := g_cgl c_68
          refine lv_fload hx hb dX1_weigh_81 (lv_at hl 0 rfl) ?_
          refine lv_aload_n hx hb dX1_weigh_83 rfl (lv_at hl 2 rfl) ?_
          refine g_get (TT := TX1) hc hw inX1_weigh_X1 0 9 2 rfl rfl (by decide) rfl rfl dX1_weigh_84 ?_
          refine lv_fcmp hx hb dX1_weigh_87 ?_
          refine lv_if_le (tgt := 97) hx hb dX1_weigh_88 (by decide) (fun c_88 => ?_) (fun c_88 => ?_)
          · skip
            have k_88 := g_clg c_88
            refine lv_iinc (v := nI (i + 1)) (lv' := [(3, .int (nI (i + 1))), (5, .float (fsz (aiF f e0 c0 i))), (4, .float (aiF f e0 c0 i)), (0, .ref pl), (1, .ref h), (2, .int c0)]) hx hb dX1_weigh_97 hl (k := 5) rfl (n_inc1 rfl) (by decide) rfl (fun ls hl => ?_)
            refine lv_goto (tgt := 12) hx hb dX1_weigh_100 (by decide) ?_
            have hw : g_W D A s [(pl, .inr (1, [u0, u1, u2, u3, u4, .ref pa, .ref aa, u7, .int (neF d (FP.i2f (t 1)) (aiF f e0 c0) (i + 1)), .float (heF d (aiF f e0 c0) (i + 1))])), (h, .inr (4, [.ref hs, .ref ht, v2, .int (nI d), v4, v5, v6, v7, v8, v9, v10])), (pa, .inl (E 1, 4, .inr (.inr (.inl e0)))), (aa, .inl (E 1, 4, .inr (.inr (.inl (amP d (aiF f e0 c0) g (i + 1)))))), (hs, .inl (E 1, 4, .inr (.inr (.inl f)))), (ht, .inl (E 0, 4, .inl t))] H locs := by
              have e0_8 : (.int (neF d (FP.i2f (t 1)) (aiF f e0 c0) i) : Value) = .int (neF d (FP.i2f (t 1)) (aiF f e0 c0) (i + 1)) := by simp [neF, heF, k_22, k_68, k_88]
              rw [e0_8] at hw
              have e0_9 : (.float (heF d (aiF f e0 c0) i) : Value) = .float (heF d (aiF f e0 c0) (i + 1)) := by simp [neF, heF, k_22, k_68, k_88]
              rw [e0_9] at hw
              have e3 : (vf_upd (amP d (aiF f e0 c0) g i) i (aiF f e0 c0 i)) = (amP d (aiF f e0 c0) g (i + 1)) := by exact am_step g k_22 rfl
              rw [e3] at hw
              exact hw
            exact ih (i + 1) (by omega)   _ _ _ hw (lv_sub hl [3, 4, 5, 0] rfl)
          · skip
            have k_88 := g_clt c_88
            refine lv_aload_n hx hb dX1_weigh_91 rfl (lv_at hl 2 rfl) ?_
            refine lv_fload hx hb dX1_weigh_92 (lv_at hl 0 rfl) ?_
            refine g_put (TT := TX1) hc hw inX1_weigh_X1 tyX1 tyX1_ok nmX1 0 9 2 rfl rfl (by decide) rfl rfl rfl rfl (Nat.le_of_ble_eq_true rfl) dX1_weigh_94 (fun H locs hw => ?_)
            have hw : g_W D A s [(pl, .inr (1, [u0, u1, u2, u3, u4, .ref pa, .ref aa, u7, .int (neF d (FP.i2f (t 1)) (aiF f e0 c0) i), .float (fsz (aiF f e0 c0 i))])), (h, .inr (4, [.ref hs, .ref ht, v2, .int (nI d), v4, v5, v6, v7, v8, v9, v10])), (pa, .inl (E 1, 4, .inr (.inr (.inl e0)))), (aa, .inl (E 1, 4, .inr (.inr (.inl (vf_upd (amP d (aiF f e0 c0) g i) i (aiF f e0 c0 i)))))), (hs, .inl (E 1, 4, .inr (.inr (.inl f)))), (ht, .inl (E 0, 4, .inl t))] H locs := hw
            refine lv_iinc (v := nI (i + 1)) (lv' := [(3, .int (nI (i + 1))), (5, .float (fsz (aiF f e0 c0 i))), (4, .float (aiF f e0 c0 i)), (0, .ref pl), (1, .ref h), (2, .int c0)]) hx hb dX1_weigh_97 hl (k := 5) rfl (n_inc1 rfl) (by decide) rfl (fun ls hl => ?_)
            refine lv_goto (tgt := 12) hx hb dX1_weigh_100 (by decide) ?_
            have hw : g_W D A s [(pl, .inr (1, [u0, u1, u2, u3, u4, .ref pa, .ref aa, u7, .int (neF d (FP.i2f (t 1)) (aiF f e0 c0) (i + 1)), .float (heF d (aiF f e0 c0) (i + 1))])), (h, .inr (4, [.ref hs, .ref ht, v2, .int (nI d), v4, v5, v6, v7, v8, v9, v10])), (pa, .inl (E 1, 4, .inr (.inr (.inl e0)))), (aa, .inl (E 1, 4, .inr (.inr (.inl (amP d (aiF f e0 c0) g (i + 1)))))), (hs, .inl (E 1, 4, .inr (.inr (.inl f)))), (ht, .inl (E 0, 4, .inl t))] H locs := by
              have e0_8 : (.int (neF d (FP.i2f (t 1)) (aiF f e0 c0) i) : Value) = .int (neF d (FP.i2f (t 1)) (aiF f e0 c0) (i + 1)) := by simp [neF, heF, k_22, k_68, k_88]
              rw [e0_8] at hw
              have e0_9 : (.float (fsz (aiF f e0 c0 i)) : Value) = .float (heF d (aiF f e0 c0) (i + 1)) := by simp [neF, heF, k_22, k_68, k_88]
              rw [e0_9] at hw
              have e3 : (vf_upd (amP d (aiF f e0 c0) g i) i (aiF f e0 c0 i)) = (amP d (aiF f e0 c0) g (i + 1)) := by exact am_step g k_22 rfl
              rw [e3] at hw
              exact hw
            exact ih (i + 1) (by omega)   _ _ _ hw (lv_sub hl [3, 4, 5, 0] rfl)
        · skip
          have k_68 := g_cgt c_68
          refine lv_aload_n hx hb dX1_weigh_71 rfl (lv_at hl 2 rfl) ?_
          refine lv_dup hx hb dX1_weigh_72 rfl ?_
          refine g_get (TT := TX1) hc hw inX1_weigh_X1 0 8 1 rfl rfl (by decide) rfl rfl dX1_weigh_73 ?_
          refine lv_iconst (v := 1) hx hb dX1_weigh_76 (by decide) ?_
          refine lv_iadd hx hb dX1_weigh_77 ?_
          refine g_put (TT := TX1) hc hw inX1_weigh_X1 tyX1 tyX1_ok nmX1 0 8 1 rfl rfl (by decide) rfl rfl rfl rfl (Nat.le_of_ble_eq_true rfl) dX1_weigh_78 (fun H locs hw => ?_)
          have hw : g_W D A s [(pl, .inr (1, [u0, u1, u2, u3, u4, .ref pa, .ref aa, u7, .int ((neF d (FP.i2f (t 1)) (aiF f e0 c0) i) + 1), .float (heF d (aiF f e0 c0) i)])), (h, .inr (4, [.ref hs, .ref ht, v2, .int (nI d), v4, v5, v6, v7, v8, v9, v10])), (pa, .inl (E 1, 4, .inr (.inr (.inl e0)))), (aa, .inl (E 1, 4, .inr (.inr (.inl (vf_upd (amP d (aiF f e0 c0) g i) i (aiF f e0 c0 i)))))), (hs, .inl (E 1, 4, .inr (.inr (.inl f)))), (ht, .inl (E 0, 4, .inl t))] H locs := hw
          refine lv_fload hx hb dX1_weigh_81 (lv_at hl 0 rfl) ?_
          refine lv_aload_n hx hb dX1_weigh_83 rfl (lv_at hl 2 rfl) ?_
          refine g_get (TT := TX1) hc hw inX1_weigh_X1 0 9 2 rfl rfl (by decide) rfl rfl dX1_weigh_84 ?_
          refine lv_fcmp hx hb dX1_weigh_87 ?_
          refine lv_if_le (tgt := 97) hx hb dX1_weigh_88 (by decide) (fun c_88 => ?_) (fun c_88 => ?_)
          · skip
            have k_88 := g_clg c_88
            refine lv_iinc (v := nI (i + 1)) (lv' := [(3, .int (nI (i + 1))), (5, .float (fsz (aiF f e0 c0 i))), (4, .float (aiF f e0 c0 i)), (0, .ref pl), (1, .ref h), (2, .int c0)]) hx hb dX1_weigh_97 hl (k := 5) rfl (n_inc1 rfl) (by decide) rfl (fun ls hl => ?_)
            refine lv_goto (tgt := 12) hx hb dX1_weigh_100 (by decide) ?_
            have hw : g_W D A s [(pl, .inr (1, [u0, u1, u2, u3, u4, .ref pa, .ref aa, u7, .int (neF d (FP.i2f (t 1)) (aiF f e0 c0) (i + 1)), .float (heF d (aiF f e0 c0) (i + 1))])), (h, .inr (4, [.ref hs, .ref ht, v2, .int (nI d), v4, v5, v6, v7, v8, v9, v10])), (pa, .inl (E 1, 4, .inr (.inr (.inl e0)))), (aa, .inl (E 1, 4, .inr (.inr (.inl (amP d (aiF f e0 c0) g (i + 1)))))), (hs, .inl (E 1, 4, .inr (.inr (.inl f)))), (ht, .inl (E 0, 4, .inl t))] H locs := by
              have e0_8 : (.int ((neF d (FP.i2f (t 1)) (aiF f e0 c0) i) + 1) : Value) = .int (neF d (FP.i2f (t 1)) (aiF f e0 c0) (i + 1)) := by simp [neF, heF, k_22, k_68, k_88]
              rw [e0_8] at hw
              have e0_9 : (.float (heF d (aiF f e0 c0) i) : Value) = .float (heF d (aiF f e0 c0) (i + 1)) := by simp [neF, heF, k_22, k_68, k_88]
              rw [e0_9] at hw
              have e3 : (vf_upd (amP d (aiF f e0 c0) g i) i (aiF f e0 c0 i)) = (amP d (aiF f e0 c0) g (i + 1)) := by exact am_step g k_22 rfl
              rw [e3] at hw
              exact hw
            exact ih (i + 1) (by omega)   _ _ _ hw (lv_sub hl [3, 4, 5, 0] rfl)
          · skip
            have k_88 := g_clt c_88
            refine lv_aload_n hx hb dX1_weigh_91 rfl (lv_at hl 2 rfl) ?_
            refine lv_fload hx hb dX1_weigh_92 (lv_at hl 0 rfl) ?_
            refine g_put (TT := TX1) hc hw inX1_weigh_X1 tyX1 tyX1_ok nmX1 0 9 2 rfl rfl (by decide) rfl rfl rfl rfl (Nat.le_of_ble_eq_true rfl) dX1_weigh_94 (fun H locs hw => ?_)
            have hw : g_W D A s [(pl, .inr (1, [u0, u1, u2, u3, u4, .ref pa, .ref aa, u7, .int ((neF d (FP.i2f (t 1)) (aiF f e0 c0) i) + 1), .float (fsz (aiF f e0 c0 i))])), (h, .inr (4, [.ref hs, .ref ht, v2, .int (nI d), v4, v5, v6, v7, v8, v9, v10])), (pa, .inl (E 1, 4, .inr (.inr (.inl e0)))), (aa, .inl (E 1, 4, .inr (.inr (.inl (vf_upd (amP d (aiF f e0 c0) g i) i (aiF f e0 c0 i)))))), (hs, .inl (E 1, 4, .inr (.inr (.inl f)))), (ht, .inl (E 0, 4, .inl t))] H locs := hw
            refine lv_iinc (v := nI (i + 1)) (lv' := [(3, .int (nI (i + 1))), (5, .float (fsz (aiF f e0 c0 i))), (4, .float (aiF f e0 c0 i)), (0, .ref pl), (1, .ref h), (2, .int c0)]) hx hb dX1_weigh_97 hl (k := 5) rfl (n_inc1 rfl) (by decide) rfl (fun ls hl => ?_)
            refine lv_goto (tgt := 12) hx hb dX1_weigh_100 (by decide) ?_
            have hw : g_W D A s [(pl, .inr (1, [u0, u1, u2, u3, u4, .ref pa, .ref aa, u7, .int (neF d (FP.i2f (t 1)) (aiF f e0 c0) (i + 1)), .float (heF d (aiF f e0 c0) (i + 1))])), (h, .inr (4, [.ref hs, .ref ht, v2, .int (nI d), v4, v5, v6, v7, v8, v9, v10])), (pa, .inl (E 1, 4, .inr (.inr (.inl e0)))), (aa, .inl (E 1, 4, .inr (.inr (.inl (amP d (aiF f e0 c0) g (i + 1)))))), (hs, .inl (E 1, 4, .inr (.inr (.inl f)))), (ht, .inl (E 0, 4, .inl t))] H locs := by
              have e0_8 : (.int ((neF d (FP.i2f (t 1)) (aiF f e0 c0) i) + 1) : Value) = .int (neF d (FP.i2f (t 1)) (aiF f e0 c0) (i + 1)) := by simp [neF, heF, k_22, k_68, k_88]
              rw [e0_8] at hw
              have e0_9 : (.float (fsz (aiF f e0 c0 i)) : Value) = .float (heF d (aiF f e0 c0) (i + 1)) := by simp [neF, heF, k_22, k_68, k_88]
              rw [e0_9] at hw
              have e3 : (vf_upd (amP d (aiF f e0 c0) g i) i (aiF f e0 c0 i)) = (amP d (aiF f e0 c0) g (i + 1)) := by exact am_step g k_22 rfl
              rw [e3] at hw
              exact hw
            exact ih (i + 1) (by omega)   _ _ _ hw (lv_sub hl [3, 4, 5, 0] rfl)
  have hw : g_W D A s [(pl, .inr (1, [u0, u1, u2, u3, u4, .ref pa, .ref aa, u7, .int (neF d (FP.i2f (t 1)) (aiF f e0 c0) 0), .float (heF d (aiF f e0 c0) 0)])), (h, .inr (4, [.ref hs, .ref ht, v2, .int (nI d), v4, v5, v6, v7, v8, v9, v10])), (pa, .inl (E 1, 4, .inr (.inr (.inl e0)))), (aa, .inl (E 1, 4, .inr (.inr (.inl (amP d (aiF f e0 c0) g 0))))), (hs, .inl (E 1, 4, .inr (.inr (.inl f)))), (ht, .inl (E 0, 4, .inl t))] H locs := by
    have e3 : g = (amP d (aiF f e0 c0) g 0) := by exact am_0 d _ g
    rw [e3] at hw
    exact hw
  exact J12 4 0 (by omega)   _ _ _ hw (lv_sub hl [1, 2, 3, 0] rfl)

theorem dX1_misses_0 : decode cX1_misses 0 = .ok (.aload_n 0, 1) := by decide +kernel
theorem dX1_misses_1 : decode cX1_misses 1 = .ok (.getfield 84, 3) := by decide +kernel
theorem dX1_misses_4 : decode cX1_misses 4 = .ok (.aload_n 1, 1) := by decide +kernel
theorem dX1_misses_5 : decode cX1_misses 5 = .ok (.getfield 115, 3) := by decide +kernel
theorem dX1_misses_8 : decode cX1_misses 8 = .ok (.iconst 0, 1) := by decide +kernel
theorem dX1_misses_9 : decode cX1_misses 9 = .ok (.iaload, 1) := by decide +kernel
theorem dX1_misses_10 : decode cX1_misses 10 = .ok (.i2f, 1) := by decide +kernel
theorem dX1_misses_11 : decode cX1_misses 11 = .ok (.fcmp .l, 1) := by decide +kernel
theorem dX1_misses_12 : decode cX1_misses 12 = .ok (.ifCond .le 7, 3) := by decide +kernel
theorem dX1_misses_15 : decode cX1_misses 15 = .ok (.iconst 1, 1) := by decide +kernel
theorem dX1_misses_16 : decode cX1_misses 16 = .ok (.goto 4, 3) := by decide +kernel
theorem dX1_misses_19 : decode cX1_misses 19 = .ok (.iconst 0, 1) := by decide +kernel
theorem dX1_misses_20 : decode cX1_misses 20 = .ok (.ireturn, 1) := by decide +kernel
theorem inX1_misses_X1 : ∀ w ∈ u_ws RX1 TX1 10, w ∈ wsX1_misses := fun w h => List.mem_cons_of_mem _ (List.mem_append_left _ (List.mem_append_right _ h))
theorem inX1_misses_X4 : ∀ w ∈ u_ws RX4 TX4 11, w ∈ wsX1_misses := fun w h => List.mem_cons_of_mem _ (List.mem_append_right _ h)
set_option maxRecDepth 100000 in
set_option maxHeartbeats 4000000 in
theorem m_X1_misses {l : Launch} {D : va_G} {E : Nat → ClassId} {T : Nat → Nat} (pl : Nat) (h : Nat) (u0 : Value) (u1 : Value) (u2 : Value) (u3 : Value) (u4 : Value) (u5 : Value) (u6 : Value) (u7 : Value) (u8 : Value) (v0 : Value) (v2 : Value) (v3 : Value) (v4 : Value) (v5 : Value) (v6 : Value) (v7 : Value) (v8 : Value) (v9 : Value) (v10 : Value) (ht : Nat) (hg : UInt32) (t : Nat → Int32)  : g_M l D E T yX1_misses wsX1_misses 0 0 [.ref pl, .ref h] [(pl, .inr (1, [u0, u1, u2, u3, u4, u5, u6, u7, u8, .float hg])), (h, .inr (4, [v0, .ref ht, v2, v3, v4, v5, v6, v7, v8, v9, v10])), (ht, .inl (E 0, 4, .inl t))] [(pl, .inr (1, [u0, u1, u2, u3, u4, u5, u6, u7, u8, .float hg])), (h, .inr (4, [v0, .ref ht, v2, v3, v4, v5, v6, v7, v8, v9, v10])), (ht, .inl (E 0, 4, .inl t))] (some (.int (b2i (fgt hg (FP.i2f (t 0)))))) := by
  refine g_M.of (cc := cX1_misses) (nL := 2) (ret := (some .boolean)) (own := RX1) (lv := [(0, .ref pl), (1, .ref h)]) (by decide) rfl rfl (Nat.le_of_ble_eq_true rfl) rfl ?_
  intro p e R s m args below meth c A Q H locs ls hR hQ hc hr hw hl
  have hx := hc.1
  have hb := hc.2.1
  have hts := hc.2.2.2.1
  have hown := hc.2.2.2.2.1
  refine lv_aload_n hx hb dX1_misses_0 rfl (lv_at hl 0 rfl) ?_
  refine g_get (TT := TX1) hc hw inX1_misses_X1 0 9 1 rfl rfl (by decide) rfl rfl dX1_misses_1 ?_
  refine lv_aload_n hx hb dX1_misses_4 rfl (lv_at hl 1 rfl) ?_
  refine g_getN (TT := TX4) hc hw inX1_misses_X4 1 1 19 rfl rfl (by decide) rfl rfl dX1_misses_5 ?_
  refine lv_iconst (v := 0) hx hb dX1_misses_8 (by decide) ?_
  refine g_ild hc hw 2 0 rfl rfl (by omega) (by decide) dX1_misses_9 ?_
  refine lv_i2f hx hb dX1_misses_10 ?_
  refine lv_fcmp hx hb dX1_misses_11 ?_
  refine lv_if_le (tgt := 19) hx hb dX1_misses_12 (by decide) (fun c_12 => ?_) (fun c_12 => ?_)
  · skip
    have k_12 := g_clg c_12
    refine lv_iconst (v := 0) hx hb dX1_misses_19 (by decide) ?_
    exact g_zret hQ hc hw hr (by exact congrArg (fun z => some (Value.int z)) (by rw [k_12]; rfl)) (by first | rfl | (split <;> rfl) | exact g_nb _) rfl dX1_misses_20
  · skip
    have k_12 := g_clt c_12
    refine lv_iconst (v := 1) hx hb dX1_misses_15 (by decide) ?_
    refine lv_goto (tgt := 20) hx hb dX1_misses_16 (by decide) ?_
    exact g_zret hQ hc hw hr (by exact congrArg (fun z => some (Value.int z)) (by rw [k_12]; rfl)) (by first | rfl | (split <;> rfl) | exact g_nb _) rfl dX1_misses_20
end P12
