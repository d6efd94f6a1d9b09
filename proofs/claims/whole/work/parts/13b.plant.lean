section P13b
theorem dX1_drive_0 : decode cX1_drive 0 = .ok (.aload_n 0, 1) := by decide +kernel
theorem dX1_drive_1 : decode cX1_drive 1 = .ok (.aload_n 1, 1) := by decide +kernel
theorem dX1_drive_2 : decode cX1_drive 2 = .ok (.invokevirtual 118, 3) := by decide +kernel
theorem dX1_drive_5 : decode cX1_drive 5 = .ok (.ifCond .eq 42, 3) := by decide +kernel
theorem dX1_drive_8 : decode cX1_drive 8 = .ok (.aload_n 1, 1) := by decide +kernel
theorem dX1_drive_9 : decode cX1_drive 9 = .ok (.dup, 1) := by decide +kernel
theorem dX1_drive_10 : decode cX1_drive 10 = .ok (.getfield 122, 3) := by decide +kernel
theorem dX1_drive_13 : decode cX1_drive 13 = .ok (.iconst 1, 1) := by decide +kernel
theorem dX1_drive_14 : decode cX1_drive 14 = .ok (.iadd, 1) := by decide +kernel
theorem dX1_drive_15 : decode cX1_drive 15 = .ok (.putfield 122, 3) := by decide +kernel
theorem dX1_drive_18 : decode cX1_drive 18 = .ok (.aload_n 1, 1) := by decide +kernel
theorem dX1_drive_19 : decode cX1_drive 19 = .ok (.dup, 1) := by decide +kernel
theorem dX1_drive_20 : decode cX1_drive 20 = .ok (.getfield 125, 3) := by decide +kernel
theorem dX1_drive_23 : decode cX1_drive 23 = .ok (.iconst 1, 1) := by decide +kernel
theorem dX1_drive_24 : decode cX1_drive 24 = .ok (.iadd, 1) := by decide +kernel
theorem dX1_drive_25 : decode cX1_drive 25 = .ok (.putfield 125, 3) := by decide +kernel
theorem dX1_drive_28 : decode cX1_drive 28 = .ok (.aload_n 1, 1) := by decide +kernel
theorem dX1_drive_29 : decode cX1_drive 29 = .ok (.getfield 125, 3) := by decide +kernel
theorem dX1_drive_32 : decode cX1_drive 32 = .ok (.iconst 3, 1) := by decide +kernel
theorem dX1_drive_33 : decode cX1_drive 33 = .ok (.if_icmp .lt 13, 3) := by decide +kernel
theorem dX1_drive_36 : decode cX1_drive 36 = .ok (.aload_n 1, 1) := by decide +kernel
theorem dX1_drive_37 : decode cX1_drive 37 = .ok (.iconst 1, 1) := by decide +kernel
theorem dX1_drive_38 : decode cX1_drive 38 = .ok (.putfield 32, 3) := by decide +kernel
theorem dX1_drive_41 : decode cX1_drive 41 = .ok (.aload_n 1, 1) := by decide +kernel
theorem dX1_drive_42 : decode cX1_drive 42 = .ok (.iconst 0, 1) := by decide +kernel
theorem dX1_drive_43 : decode cX1_drive 43 = .ok (.putfield 125, 3) := by decide +kernel
theorem dX1_drive_46 : decode cX1_drive 46 = .ok (.return_, 1) := by decide +kernel
theorem dX1_drive_47 : decode cX1_drive 47 = .ok (.aload_n 1, 1) := by decide +kernel
theorem dX1_drive_48 : decode cX1_drive 48 = .ok (.iconst 0, 1) := by decide +kernel
theorem dX1_drive_49 : decode cX1_drive 49 = .ok (.putfield 125, 3) := by decide +kernel
theorem dX1_drive_52 : decode cX1_drive 52 = .ok (.iconst 0, 1) := by decide +kernel
theorem dX1_drive_53 : decode cX1_drive 53 = .ok (.istore_n 2, 1) := by decide +kernel
theorem dX1_drive_54 : decode cX1_drive 54 = .ok (.iload_n 2, 1) := by decide +kernel
theorem dX1_drive_55 : decode cX1_drive 55 = .ok (.iconst 4, 1) := by decide +kernel
theorem dX1_drive_56 : decode cX1_drive 56 = .ok (.if_icmp .ge 61, 3) := by decide +kernel
theorem dX1_drive_59 : decode cX1_drive 59 = .ok (.aload_n 1, 1) := by decide +kernel
theorem dX1_drive_60 : decode cX1_drive 60 = .ok (.iload_n 2, 1) := by decide +kernel
theorem dX1_drive_61 : decode cX1_drive 61 = .ok (.invokevirtual 90, 3) := by decide +kernel
theorem dX1_drive_64 : decode cX1_drive 64 = .ok (.ifCond .ne 47, 3) := by decide +kernel
theorem dX1_drive_67 : decode cX1_drive 67 = .ok (.aload_n 1, 1) := by decide +kernel
theorem dX1_drive_68 : decode cX1_drive 68 = .ok (.getfield 108, 3) := by decide +kernel
theorem dX1_drive_71 : decode cX1_drive 71 = .ok (.iload_n 2, 1) := by decide +kernel
theorem dX1_drive_72 : decode cX1_drive 72 = .ok (.faload, 1) := by decide +kernel
theorem dX1_drive_73 : decode cX1_drive 73 = .ok (.invokestatic 128, 3) := by decide +kernel
theorem dX1_drive_76 : decode cX1_drive 76 = .ok (.aload_n 0, 1) := by decide +kernel
theorem dX1_drive_77 : decode cX1_drive 77 = .ok (.getfield 25, 3) := by decide +kernel
theorem dX1_drive_80 : decode cX1_drive 80 = .ok (.iload_n 2, 1) := by decide +kernel
theorem dX1_drive_81 : decode cX1_drive 81 = .ok (.faload, 1) := by decide +kernel
theorem dX1_drive_82 : decode cX1_drive 82 = .ok (.invokestatic 128, 3) := by decide +kernel
theorem dX1_drive_85 : decode cX1_drive 85 = .ok (.imul, 1) := by decide +kernel
theorem dX1_drive_86 : decode cX1_drive 86 = .ok (.ifCond .ge 13, 3) := by decide +kernel
theorem dX1_drive_89 : decode cX1_drive 89 = .ok (.aload_n 1, 1) := by decide +kernel
theorem dX1_drive_90 : decode cX1_drive 90 = .ok (.dup, 1) := by decide +kernel
theorem dX1_drive_91 : decode cX1_drive 91 = .ok (.getfield 132, 3) := by decide +kernel
theorem dX1_drive_94 : decode cX1_drive 94 = .ok (.iconst 1, 1) := by decide +kernel
theorem dX1_drive_95 : decode cX1_drive 95 = .ok (.iadd, 1) := by decide +kernel
theorem dX1_drive_96 : decode cX1_drive 96 = .ok (.putfield 132, 3) := by decide +kernel
theorem dX1_drive_99 : decode cX1_drive 99 = .ok (.aload_n 1, 1) := by decide +kernel
theorem dX1_drive_100 : decode cX1_drive 100 = .ok (.getfield 108, 3) := by decide +kernel
theorem dX1_drive_103 : decode cX1_drive 103 = .ok (.iload_n 2, 1) := by decide +kernel
theorem dX1_drive_104 : decode cX1_drive 104 = .ok (.aload_n 0, 1) := by decide +kernel
theorem dX1_drive_105 : decode cX1_drive 105 = .ok (.getfield 25, 3) := by decide +kernel
theorem dX1_drive_108 : decode cX1_drive 108 = .ok (.iload_n 2, 1) := by decide +kernel
theorem dX1_drive_109 : decode cX1_drive 109 = .ok (.faload, 1) := by decide +kernel
theorem dX1_drive_110 : decode cX1_drive 110 = .ok (.fastore, 1) := by decide +kernel
theorem dX1_drive_111 : decode cX1_drive 111 = .ok (.iinc 2 1, 3) := by decide +kernel
theorem dX1_drive_114 : decode cX1_drive 114 = .ok (.goto (-60), 3) := by decide +kernel
theorem dX1_drive_117 : decode cX1_drive 117 = .ok (.return_, 1) := by decide +kernel
set_option maxRecDepth 20000 in
theorem ggX1_drive_X1_misses : GoodIn wsX1_drive wsX1_misses := goodIn_r _ [6, 7, 27, 28, 29, 30, 31, 32, 33, 34, 35, 36, 16, 17, 18, 19, 20, 21, 22, 23, 24, 25, 26] rfl (by decide +kernel)
set_option maxRecDepth 20000 in
theorem gX1_drive_X1_misses : GoodIn wsX1_drive (wsV RX1 118 RX1 yX1_misses wsX1_misses) := goodIn_app (goodIn_of _ (by decide +kernel)) ggX1_drive_X1_misses
set_option maxRecDepth 20000 in
theorem ggX1_drive_X4_isDead : GoodIn wsX1_drive wsX4_isDead := goodIn_r _ [11, 12, 16, 17, 18, 19, 20, 21, 22, 23, 24, 25, 26] rfl (by decide +kernel)
set_option maxRecDepth 20000 in
theorem ggX1_drive_X5_signOf : GoodIn wsX1_drive wsX5_signOf := goodIn_r _ [15] rfl (by decide +kernel)
theorem inX1_drive_X1 : ∀ w ∈ u_ws RX1 TX1 10, w ∈ wsX1_drive := fun w h => List.mem_cons_of_mem _ (List.mem_append_right _ h)
theorem inX1_drive_X4 : ∀ w ∈ u_ws RX4 TX4 11, w ∈ wsX1_drive := fun w h => List.mem_cons_of_mem _ (List.mem_append_left _ (List.mem_append_right _ h))
set_option maxRecDepth 100000 in
set_option maxHeartbeats 4000000 in
theorem m_X1_drive {l : Launch} {D : va_G} {E : Nat → ClassId} {T : Nat → Nat} (pl : Nat) (h : Nat) (u0 : Value) (u1 : Value) (u2 : Value) (u3 : Value) (u4 : Value) (u5 : Value) (u7 : Value) (u8 : Value) (v2 : Value) (v5 : Value) (v8 : Value) (v10 : Value) (aa : Nat) (hs : Nat) (ht : Nat) (d : Nat) (hg : UInt32) (mo : Int32) (mi : Int32) (cr : Int32) (ru : Int32) (a : Nat → UInt32) (f : Nat → UInt32) (t : Nat → Int32) (hd : d < 16) : g_M l D E T yX1_drive wsX1_drive 1 21 [.ref pl, .ref h] [(pl, .inr (1, [u0, u1, u2, u3, u4, u5, .ref aa, u7, u8, .float hg])), (h, .inr (4, [.ref hs, .ref ht, v2, .int (nI d), .int mo, v5, .int mi, .int cr, v8, .int ru, v10])), (aa, .inl (E 1, 4, .inr (.inr (.inl a)))), (hs, .inl (E 1, 4, .inr (.inr (.inl f)))), (ht, .inl (E 0, 4, .inl t))] [(pl, .inr (1, [u0, u1, u2, u3, u4, u5, .ref aa, u7, u8, .float hg])), (h, .inr (4, [.ref hs, .ref ht, v2, .int (nI d), .int (drM (fgt hg (FP.i2f (t 0))) mo ru), v5, .int (drI (fgt hg (FP.i2f (t 0))) mi), .int (drC (fgt hg (FP.i2f (t 0))) d f a cr), v8, .int (drR (fgt hg (FP.i2f (t 0))) ru), v10])), (aa, .inl (E 1, 4, .inr (.inr (.inl a)))), (hs, .inl (E 1, 4, .inr (.inr (.inl (drF (fgt hg (FP.i2f (t 0))) d f a))))), (ht, .inl (E 0, 4, .inl t))] none := by
  refine g_M.of (cc := cX1_drive) (nL := 3) (ret := none) (own := RX1) (lv := [(0, .ref pl), (1, .ref h)]) (by decide) rfl rfl (Nat.le_of_ble_eq_true rfl) rfl ?_
  intro p e R s m args below meth c A Q H locs ls hR hQ hc hr hw hl
  have hx := hc.1
  have hb := hc.2.1
  have hts := hc.2.2.2.1
  have hown := hc.2.2.2.2.1
  refine lv_aload_n hx hb dX1_drive_0 rfl (lv_at hl 0 rfl) ?_
  refine lv_aload_n hx hb dX1_drive_1 rfl (lv_at hl 1 rfl) ?_
  refine g_cV (As := [.ref h]) (n := 1) (rest := []) (wc := [(pl, .inr (1, [u0, u1, u2, u3, u4, u5, .ref aa, u7, u8, .float hg])), (h, .inr (4, [.ref hs, .ref ht, v2, .int (nI d), .int mo, v5, .int mi, .int cr, v8, .int ru, v10])), (ht, .inl (E 0, 4, .inl t))]) (w1 := [(pl, .inr (1, [u0, u1, u2, u3, u4, u5, .ref aa, u7, u8, .float hg])), (h, .inr (4, [.ref hs, .ref ht, v2, .int (nI d), .int mo, v5, .int mi, .int cr, v8, .int ru, v10])), (ht, .inl (E 0, 4, .inl t))]) (bytes := cX1_misses) (maxL := 2) (ret := (some .boolean)) hc hw hl.1 (m_X1_misses (l := l) (D := D) (E := E) (T := T) pl h u0 u1 u2 u3 u4 u5 (.ref aa) u7 u8 (.ref hs) v2 (.int (nI d)) (.int mo) v5 (.int mi) (.int cr) v8 (.int ru) v10 ht hg t) gX1_drive_X1_misses rfl (by decide +kernel) (by rw [hR]; exact ⟨Nat.le_of_ble_eq_true rfl, Nat.le_of_ble_eq_true rfl⟩) [0, 1, 4] 0 1 rfl rfl (by decide) rfl [pl, h, ht] rfl rfl rfl rfl (Nat.le_of_ble_eq_true rfl) dX1_drive_2 ⟨Nat.zero_le _, Nat.zero_le _⟩ (fun H locs hw => ?_)
  have hw : g_W D A s [(pl, .inr (1, [u0, u1, u2, u3, u4, u5, .ref aa, u7, u8, .float hg])), (h, .inr (4, [.ref hs, .ref ht, v2, .int (nI d), .int mo, v5, .int mi, .int cr, v8, .int ru, v10])), (aa, .inl (E 1, 4, .inr (.inr (.inl a)))), (hs, .inl (E 1, 4, .inr (.inr (.inl f)))), (ht, .inl (E 0, 4, .inl t))] H locs := hw
  refine lv_if_eq (tgt := 47) hx hb dX1_drive_5 (by decide) (fun c_5 => ?_) (fun c_5 => ?_)
  · skip
    have k_5 := b2i_eq c_5
    refine lv_aload_n hx hb dX1_drive_47 rfl (lv_at hl 1 rfl) ?_
    refine lv_iconst (v := 0) hx hb dX1_drive_48 (by decide) ?_
    refine g_putN (TT := TX4) hc hw inX1_drive_X4 tyX4 tyX4_ok nmX4 1 9 38 rfl rfl (by decide) rfl rfl rfl rfl (Nat.le_of_ble_eq_true rfl) dX1_drive_49 (fun H locs hw => ?_)
    have hw : g_W D A s [(pl, .inr (1, [u0, u1, u2, u3, u4, u5, .ref aa, u7, u8, .float hg])), (h, .inr (4, [.ref hs, .ref ht, v2, .int (nI d), .int mo, v5, .int mi, .int cr, v8, .int 0, v10])), (aa, .inl (E 1, 4, .inr (.inr (.inl a)))), (hs, .inl (E 1, 4, .inr (.inr (.inl f)))), (ht, .inl (E 0, 4, .inl t))] H locs := hw
    refine lv_iconst (v := 0) hx hb dX1_drive_52 (by decide) ?_
    refine lv_istore_n (lv' := [(2, .int 0), (0, .ref pl), (1, .ref h)]) hx hb dX1_drive_53 rfl hl (by decide) rfl (fun ls hl => ?_)
    have J54 : ∀ (k9 : Nat) (i : Nat), i + k9 = 4 → ∀ (H : Heap) (locs : List Loc) (ls : Array Slot), g_W D A s [(pl, .inr (1, [u0, u1, u2, u3, u4, u5, .ref aa, u7, u8, .float hg])), (h, .inr (4, [.ref hs, .ref ht, v2, .int (nI d), .int mo, v5, .int mi, .int (crF d f a cr i), v8, .int 0, v10])), (aa, .inl (E 1, 4, .inr (.inr (.inl a)))), (hs, .inl (E 1, 4, .inr (.inr (.inl (amP d a f i))))), (ht, .inl (E 0, 4, .inl t))] H locs → lv_has ls 3 [(0, .ref pl), (1, .ref h), (2, .int (nI i))] → W p l e R s m args below meth c H locs 0 0 Q (F0 m 54 ls []) := by
      intro k9
      induction k9 with
      | zero =>
        intro i h9   H locs ls hw hl
        have h9 : i = 4 := h9
        subst h9
        refine lv_iload_n hx hb dX1_drive_54 rfl (lv_at hl 2 rfl) ?_
        refine lv_iconst (v := 4) hx hb dX1_drive_55 (by decide) ?_
        refine lv_icmp_ge (tgt := 117) hx hb dX1_drive_56 (by decide) (fun c_56 => ?_) (fun c_56 => absurd (by first | exact Int32.le_refl _ | decide) c_56)
        exact g_vret hQ hc hw hr rfl (by simp only [drM, drI, drC, drR, drF, k_5, if_true, Bool.false_eq_true, if_false]) dX1_drive_117
      | succ k9 ih =>
        intro i h9   H locs ls hw hl
        have h9b : i < 4 := by omega
        refine lv_iload_n hx hb dX1_drive_54 rfl (lv_at hl 2 rfl) ?_
        refine lv_iconst (v := 4) hx hb dX1_drive_55 (by decide) ?_
        refine lv_icmp_ge (tgt := 117) hx hb dX1_drive_56 (by decide) (fun c_56 => absurd c_56 (nI_ge h9b (by decide))) (fun c_56 => ?_)
        refine lv_aload_n hx hb dX1_drive_59 rfl (lv_at hl 1 rfl) ?_
        refine lv_iload_n hx hb dX1_drive_60 rfl (lv_at hl 2 rfl) ?_
        refine g_cVN (As := [.int (nI i)]) (n := 1) (rest := []) (wc := [(h, .inr (4, [.ref hs, .ref ht, v2, .int (nI d), .int mo, v5, .int mi, .int (crF d f a cr i), v8, .int 0, v10]))]) (w1 := [(h, .inr (4, [.ref hs, .ref ht, v2, .int (nI d), .int mo, v5, .int mi, .int (crF d f a cr i), v8, .int 0, v10]))]) (bytes := cX4_isDead) (maxL := 2) (ret := (some .boolean)) hc hw hl.1 (m_X4_isDead (l := l) (D := D) (E := E) (T := T) h (.ref hs) (.ref ht) v2 (.int mo) v5 (.int mi) (.int (crF d f a cr i)) v8 (.int 0) v10 d i (by first | assumption | omega | decide) (by first | assumption | omega | decide)) ggX1_drive_X4_isDead rfl 59 rfl 9 8 10 rfl rfl rfl (by decide +kernel) (by rw [hR]; exact ⟨Nat.le_of_ble_eq_true rfl, Nat.le_of_ble_eq_true rfl⟩) [1] 1 4 rfl rfl (by decide) rfl [h] rfl rfl rfl rfl (Nat.le_of_ble_eq_true rfl) dX1_drive_61 ⟨Nat.zero_le _, Nat.zero_le _⟩ (fun H locs hw => ?_)
        have hw : g_W D A s [(pl, .inr (1, [u0, u1, u2, u3, u4, u5, .ref aa, u7, u8, .float hg])), (h, .inr (4, [.ref hs, .ref ht, v2, .int (nI d), .int mo, v5, .int mi, .int (crF d f a cr i), v8, .int 0, v10])), (aa, .inl (E 1, 4, .inr (.inr (.inl a)))), (hs, .inl (E 1, 4, .inr (.inr (.inl (amP d a f i))))), (ht, .inl (E 0, 4, .inl t))] H locs := hw
        refine lv_if_ne (tgt := 111) hx hb dX1_drive_64 (by decide) (fun c_64 => ?_) (fun c_64 => ?_)
        · skip
          have k_64 := b2i_ne c_64
          refine lv_iinc (v := nI (i + 1)) (lv' := [(2, .int (nI (i + 1))), (0, .ref pl), (1, .ref h)]) hx hb dX1_drive_111 hl (k := 2) rfl (n_inc1 rfl) (by decide) rfl (fun ls hl => ?_)
          refine lv_goto (tgt := 54) hx hb dX1_drive_114 (by decide) ?_
          have hw : g_W D A s [(pl, .inr (1, [u0, u1, u2, u3, u4, u5, .ref aa, u7, u8, .float hg])), (h, .inr (4, [.ref hs, .ref ht, v2, .int (nI d), .int mo, v5, .int mi, .int (crF d f a cr (i + 1)), v8, .int 0, v10])), (aa, .inl (E 1, 4, .inr (.inr (.inl a)))), (hs, .inl (E 1, 4, .inr (.inr (.inl (amP d a f (i + 1)))))), (ht, .inl (E 0, 4, .inl t))] H locs := by
            have e1_7 : (.int (crF d f a cr i) : Value) = .int (crF d f a cr (i + 1)) := by exact congrArg Value.int (crS k_64)
            rw [e1_7] at hw
            have e3 : (amP d a f i) = (amP d a f (i + 1)) := by exact am_skip a f k_64
            rw [e3] at hw
            exact hw
          exact ih (i + 1) (by omega)   _ _ _ hw (lv_sub hl [1, 2, 0] rfl)
        · skip
          have k_64 := b2i_eq c_64
          refine lv_aload_n hx hb dX1_drive_67 rfl (lv_at hl 1 rfl) ?_
          refine g_getN (TT := TX4) hc hw inX1_drive_X4 1 0 17 rfl rfl (by decide) rfl rfl dX1_drive_68 ?_
          refine lv_iload_n hx hb dX1_drive_71 rfl (lv_at hl 2 rfl) ?_
          refine g_fld hc hw 3 i rfl rfl (by omega) (by decide) dX1_drive_72 ?_
          refine g_cSN (As := [.float ((amP d a f i) i)]) (n := 1) (rest := []) (wc := []) (w1 := []) (bytes := cX5_signOf) (maxL := 1) (ret := (some .int)) hc hw hl.1 (m_X5_signOf (l := l) (D := D) (E := E) (T := T) ((amP d a f i) i)) ggX1_drive_X5_signOf rfl 63 rfl 14 13 rfl rfl (by decide +kernel) (by rw [hR]; exact ⟨Nat.le_of_ble_eq_true rfl, Nat.le_of_ble_eq_true rfl⟩) [] (by decide) rfl [] rfl rfl rfl rfl (Nat.le_of_ble_eq_true rfl) dX1_drive_73 ⟨Nat.zero_le _, Nat.zero_le _⟩ (fun H locs hw => ?_)
          have hw : g_W D A s [(pl, .inr (1, [u0, u1, u2, u3, u4, u5, .ref aa, u7, u8, .float hg])), (h, .inr (4, [.ref hs, .ref ht, v2, .int (nI d), .int mo, v5, .int mi, .int (crF d f a cr i), v8, .int 0, v10])), (aa, .inl (E 1, 4, .inr (.inr (.inl a)))), (hs, .inl (E 1, 4, .inr (.inr (.inl (amP d a f i))))), (ht, .inl (E 0, 4, .inl t))] H locs := hw
          refine lv_aload_n hx hb dX1_drive_76 rfl (lv_at hl 0 rfl) ?_
          refine g_get (TT := TX1) hc hw inX1_drive_X1 0 6 1 rfl rfl (by decide) rfl rfl dX1_drive_77 ?_
          refine lv_iload_n hx hb dX1_drive_80 rfl (lv_at hl 2 rfl) ?_
          refine g_fld hc hw 2 i rfl rfl (by omega) (by decide) dX1_drive_81 ?_
          refine g_cSN (As := [.float (a i)]) (n := 1) (rest := [.int (fsg ((amP d a f i) i))]) (wc := []) (w1 := []) (bytes := cX5_signOf) (maxL := 1) (ret := (some .int)) hc hw hl.1 (m_X5_signOf (l := l) (D := D) (E := E) (T := T) (a i)) ggX1_drive_X5_signOf rfl 63 rfl 14 13 rfl rfl (by decide +kernel) (by rw [hR]; exact ⟨Nat.le_of_ble_eq_true rfl, Nat.le_of_ble_eq_true rfl⟩) [] (by decide) rfl [] rfl rfl rfl rfl (Nat.le_of_ble_eq_true rfl) dX1_drive_82 ⟨Nat.zero_le _, Nat.zero_le _⟩ (fun H locs hw => ?_)
          have hw : g_W D A s [(pl, .inr (1, [u0, u1, u2, u3, u4, u5, .ref aa, u7, u8, .float hg])), (h, .inr (4, [.ref hs, .ref ht, v2, .int (nI d), .int mo, v5, .int mi, .int (crF d f a cr i), v8, .int 0, v10])), (aa, .inl (E 1, 4, .inr (.inr (.inl a)))), (hs, .inl (E 1, 4, .inr (.inr (.inl (amP d a f i))))), (ht, .inl (E 0, 4, .inl t))] H locs := hw
          rw [am_at a f i]
          refine lv_imul hx hb dX1_drive_85 ?_
          refine lv_if_ge (tgt := 99) hx hb dX1_drive_86 (by decide) (fun c_86 => ?_) (fun c_86 => ?_)
          · skip
            refine lv_aload_n hx hb dX1_drive_99 rfl (lv_at hl 1 rfl) ?_
            refine g_getN (TT := TX4) hc hw inX1_drive_X4 1 0 17 rfl rfl (by decide) rfl rfl dX1_drive_100 ?_
            refine lv_iload_n hx hb dX1_drive_103 rfl (lv_at hl 2 rfl) ?_
            refine lv_aload_n hx hb dX1_drive_104 rfl (lv_at hl 0 rfl) ?_
            refine g_get (TT := TX1) hc hw inX1_drive_X1 0 6 1 rfl rfl (by decide) rfl rfl dX1_drive_105 ?_
            refine lv_iload_n hx hb dX1_drive_108 rfl (lv_at hl 2 rfl) ?_
            refine g_fld hc hw 2 i rfl rfl (by omega) (by decide) dX1_drive_109 ?_
            refine g_fst hc hw 3 i rfl rfl (by omega) (by decide) dX1_drive_110 (fun H locs hw => ?_)
            have hw : g_W D A s [(pl, .inr (1, [u0, u1, u2, u3, u4, u5, .ref aa, u7, u8, .float hg])), (h, .inr (4, [.ref hs, .ref ht, v2, .int (nI d), .int mo, v5, .int mi, .int (crF d f a cr i), v8, .int 0, v10])), (aa, .inl (E 1, 4, .inr (.inr (.inl a)))), (hs, .inl (E 1, 4, .inr (.inr (.inl (vf_upd (amP d a f i) i (a i)))))), (ht, .inl (E 0, 4, .inl t))] H locs := hw
            refine lv_iinc (v := nI (i + 1)) (lv' := [(2, .int (nI (i + 1))), (0, .ref pl), (1, .ref h)]) hx hb dX1_drive_111 hl (k := 2) rfl (n_inc1 rfl) (by decide) rfl (fun ls hl => ?_)
            refine lv_goto (tgt := 54) hx hb dX1_drive_114 (by decide) ?_
            have hw : g_W D A s [(pl, .inr (1, [u0, u1, u2, u3, u4, u5, .ref aa, u7, u8, .float hg])), (h, .inr (4, [.ref hs, .ref ht, v2, .int (nI d), .int mo, v5, .int mi, .int (crF d f a cr (i + 1)), v8, .int 0, v10])), (aa, .inl (E 1, 4, .inr (.inr (.inl a)))), (hs, .inl (E 1, 4, .inr (.inr (.inl (amP d a f (i + 1)))))), (ht, .inl (E 0, 4, .inl t))] H locs := by
              have e1_7 : (.int (crF d f a cr i) : Value) = .int (crF d f a cr (i + 1)) := by exact congrArg Value.int (crN k_64 (g_geN c_86))
              rw [e1_7] at hw
              have e3 : (vf_upd (amP d a f i) i (a i)) = (amP d a f (i + 1)) := by exact am_step f k_64 rfl
              rw [e3] at hw
              exact hw
            exact ih (i + 1) (by omega)   _ _ _ hw (lv_sub hl [1, 2, 0] rfl)
          · skip
            refine lv_aload_n hx hb dX1_drive_89 rfl (lv_at hl 1 rfl) ?_
            refine lv_dup hx hb dX1_drive_90 rfl ?_
            refine g_getN (TT := TX4) hc hw inX1_drive_X4 1 7 34 rfl rfl (by decide) rfl rfl dX1_drive_91 ?_
            refine lv_iconst (v := 1) hx hb dX1_drive_94 (by decide) ?_
            refine lv_iadd hx hb dX1_drive_95 ?_
            refine g_putN (TT := TX4) hc hw inX1_drive_X4 tyX4 tyX4_ok nmX4 1 7 34 rfl rfl (by decide) rfl rfl rfl rfl (Nat.le_of_ble_eq_true rfl) dX1_drive_96 (fun H locs hw => ?_)
            have hw : g_W D A s [(pl, .inr (1, [u0, u1, u2, u3, u4, u5, .ref aa, u7, u8, .float hg])), (h, .inr (4, [.ref hs, .ref ht, v2, .int (nI d), .int mo, v5, .int mi, .int ((crF d f a cr i) + 1), v8, .int 0, v10])), (aa, .inl (E 1, 4, .inr (.inr (.inl a)))), (hs, .inl (E 1, 4, .inr (.inr (.inl (amP d a f i))))), (ht, .inl (E 0, 4, .inl t))] H locs := hw
            refine lv_aload_n hx hb dX1_drive_99 rfl (lv_at hl 1 rfl) ?_
            refine g_getN (TT := TX4) hc hw inX1_drive_X4 1 0 17 rfl rfl (by decide) rfl rfl dX1_drive_100 ?_
            refine lv_iload_n hx hb dX1_drive_103 rfl (lv_at hl 2 rfl) ?_
            refine lv_aload_n hx hb dX1_drive_104 rfl (lv_at hl 0 rfl) ?_
            refine g_get (TT := TX1) hc hw inX1_drive_X1 0 6 1 rfl rfl (by decide) rfl rfl dX1_drive_105 ?_
            refine lv_iload_n hx hb dX1_drive_108 rfl (lv_at hl 2 rfl) ?_
            refine g_fld hc hw 2 i rfl rfl (by omega) (by decide) dX1_drive_109 ?_
            refine g_fst hc hw 3 i rfl rfl (by omega) (by decide) dX1_drive_110 (fun H locs hw => ?_)
            have hw : g_W D A s [(pl, .inr (1, [u0, u1, u2, u3, u4, u5, .ref aa, u7, u8, .float hg])), (h, .inr (4, [.ref hs, .ref ht, v2, .int (nI d), .int mo, v5, .int mi, .int ((crF d f a cr i) + 1), v8, .int 0, v10])), (aa, .inl (E 1, 4, .inr (.inr (.inl a)))), (hs, .inl (E 1, 4, .inr (.inr (.inl (vf_upd (amP d a f i) i (a i)))))), (ht, .inl (E 0, 4, .inl t))] H locs := hw
            refine lv_iinc (v := nI (i + 1)) (lv' := [(2, .int (nI (i + 1))), (0, .ref pl), (1, .ref h)]) hx hb dX1_drive_111 hl (k := 2) rfl (n_inc1 rfl) (by decide) rfl (fun ls hl => ?_)
            refine lv_goto (tgt := 54) hx hb dX1_drive_114 (by decide) ?_
            have hw : g_W D A s [(pl, .inr (1, [u0, u1, u2, u3, u4, u5, .ref aa, u7, u8, .float hg])), (h, .inr (4, [.ref hs, .ref ht, v2, .int (nI d), .int mo, v5, .int mi, .int (crF d f a cr (i + 1)), v8, .int 0, v10])), (aa, .inl (E 1, 4, .inr (.inr (.inl a)))), (hs, .inl (E 1, 4, .inr (.inr (.inl (amP d a f (i + 1)))))), (ht, .inl (E 0, 4, .inl t))] H locs := by
              have e1_7 : (.int ((crF d f a cr i) + 1) : Value) = .int (crF d f a cr (i + 1)) := by exact congrArg Value.int (crY k_64 (g_ltN c_86))
              rw [e1_7] at hw
              have e3 : (vf_upd (amP d a f i) i (a i)) = (amP d a f (i + 1)) := by exact am_step f k_64 rfl
              rw [e3] at hw
              exact hw
            exact ih (i + 1) (by omega)   _ _ _ hw (lv_sub hl [1, 2, 0] rfl)
    have hw : g_W D A s [(pl, .inr (1, [u0, u1, u2, u3, u4, u5, .ref aa, u7, u8, .float hg])), (h, .inr (4, [.ref hs, .ref ht, v2, .int (nI d), .int mo, v5, .int mi, .int (crF d f a cr 0), v8, .int 0, v10])), (aa, .inl (E 1, 4, .inr (.inr (.inl a)))), (hs, .inl (E 1, 4, .inr (.inr (.inl (amP d a f 0))))), (ht, .inl (E 0, 4, .inl t))] H locs := by
      have e3 : f = (amP d a f 0) := by exact am_0 d a f
      rw [e3] at hw
      exact hw
    exact J54 4 0 (by omega)   _ _ _ hw (lv_sub hl [1, 2, 0] rfl)
  · skip
    have k_5 := b2i_ne c_5
    refine lv_aload_n hx hb dX1_drive_8 rfl (lv_at hl 1 rfl) ?_
    refine lv_dup hx hb dX1_drive_9 rfl ?_
    refine g_getN (TT := TX4) hc hw inX1_drive_X4 1 6 32 rfl rfl (by decide) rfl rfl dX1_drive_10 ?_
    refine lv_iconst (v := 1) hx hb dX1_drive_13 (by decide) ?_
    refine lv_iadd hx hb dX1_drive_14 ?_
    refine g_putN (TT := TX4) hc hw inX1_drive_X4 tyX4 tyX4_ok nmX4 1 6 32 rfl rfl (by decide) rfl rfl rfl rfl (Nat.le_of_ble_eq_true rfl) dX1_drive_15 (fun H locs hw => ?_)
    have hw : g_W D A s [(pl, .inr (1, [u0, u1, u2, u3, u4, u5, .ref aa, u7, u8, .float hg])), (h, .inr (4, [.ref hs, .ref ht, v2, .int (nI d), .int mo, v5, .int (mi + 1), .int cr, v8, .int ru, v10])), (aa, .inl (E 1, 4, .inr (.inr (.inl a)))), (hs, .inl (E 1, 4, .inr (.inr (.inl f)))), (ht, .inl (E 0, 4, .inl t))] H locs := hw
    refine lv_aload_n hx hb dX1_drive_18 rfl (lv_at hl 1 rfl) ?_
    refine lv_dup hx hb dX1_drive_19 rfl ?_
    refine g_getN (TT := TX4) hc hw inX1_drive_X4 1 9 38 rfl rfl (by decide) rfl rfl dX1_drive_20 ?_
    refine lv_iconst (v := 1) hx hb dX1_drive_23 (by decide) ?_
    refine lv_iadd hx hb dX1_drive_24 ?_
    refine g_putN (TT := TX4) hc hw inX1_drive_X4 tyX4 tyX4_ok nmX4 1 9 38 rfl rfl (by decide) rfl rfl rfl rfl (Nat.le_of_ble_eq_true rfl) dX1_drive_25 (fun H locs hw => ?_)
    have hw : g_W D A s [(pl, .inr (1, [u0, u1, u2, u3, u4, u5, .ref aa, u7, u8, .float hg])), (h, .inr (4, [.ref hs, .ref ht, v2, .int (nI d), .int mo, v5, .int (mi + 1), .int cr, v8, .int (ru + 1), v10])), (aa, .inl (E 1, 4, .inr (.inr (.inl a)))), (hs, .inl (E 1, 4, .inr (.inr (.inl f)))), (ht, .inl (E 0, 4, .inl t))] H locs := hw
    refine lv_aload_n hx hb dX1_drive_28 rfl (lv_at hl 1 rfl) ?_
    refine g_getN (TT := TX4) hc hw inX1_drive_X4 1 9 38 rfl rfl (by decide) rfl rfl dX1_drive_29 ?_
    refine lv_iconst (v := 3) hx hb dX1_drive_32 (by decide) ?_
    refine lv_icmp_lt (tgt := 46) hx hb dX1_drive_33 (by decide) (fun c_33 => ?_) (fun c_33 => ?_)
    · skip
      exact g_vret hQ hc hw hr rfl (by simp only [drM, drI, drC, drR, drF, k_5, if_true, Bool.false_eq_true, if_false, if_pos c_33]) dX1_drive_46
    · skip
      refine lv_aload_n hx hb dX1_drive_36 rfl (lv_at hl 1 rfl) ?_
      refine lv_iconst (v := 1) hx hb dX1_drive_37 (by decide) ?_
      refine g_putN (TT := TX4) hc hw inX1_drive_X4 tyX4 tyX4_ok nmX4 1 4 26 rfl rfl (by decide) rfl rfl rfl rfl (Nat.le_of_ble_eq_true rfl) dX1_drive_38 (fun H locs hw => ?_)
      have hw : g_W D A s [(pl, .inr (1, [u0, u1, u2, u3, u4, u5, .ref aa, u7, u8, .float hg])), (h, .inr (4, [.ref hs, .ref ht, v2, .int (nI d), .int 1, v5, .int (mi + 1), .int cr, v8, .int (ru + 1), v10])), (aa, .inl (E 1, 4, .inr (.inr (.inl a)))), (hs, .inl (E 1, 4, .inr (.inr (.inl f)))), (ht, .inl (E 0, 4, .inl t))] H locs := hw
      refine lv_aload_n hx hb dX1_drive_41 rfl (lv_at hl 1 rfl) ?_
      refine lv_iconst (v := 0) hx hb dX1_drive_42 (by decide) ?_
      refine g_putN (TT := TX4) hc hw inX1_drive_X4 tyX4 tyX4_ok nmX4 1 9 38 rfl rfl (by decide) rfl rfl rfl rfl (Nat.le_of_ble_eq_true rfl) dX1_drive_43 (fun H locs hw => ?_)
      have hw : g_W D A s [(pl, .inr (1, [u0, u1, u2, u3, u4, u5, .ref aa, u7, u8, .float hg])), (h, .inr (4, [.ref hs, .ref ht, v2, .int (nI d), .int 1, v5, .int (mi + 1), .int cr, v8, .int 0, v10])), (aa, .inl (E 1, 4, .inr (.inr (.inl a)))), (hs, .inl (E 1, 4, .inr (.inr (.inl f)))), (ht, .inl (E 0, 4, .inl t))] H locs := hw
      exact g_vret hQ hc hw hr rfl (by simp only [drM, drI, drC, drR, drF, k_5, if_true, Bool.false_eq_true, if_false, if_neg c_33]) dX1_drive_46
end P13b
