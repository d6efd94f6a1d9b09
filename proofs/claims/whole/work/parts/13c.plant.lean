section P13c
theorem dX1_turn_0 : decode cX1_turn 0 = .ok (.iconst 0, 1) := by decide +kernel
theorem dX1_turn_1 : decode cX1_turn 1 = .ok (.istore 5, 2) := by decide +kernel
theorem dX1_turn_3 : decode cX1_turn 3 = .ok (.iload 5, 2) := by decide +kernel
theorem dX1_turn_5 : decode cX1_turn 5 = .ok (.iconst 4, 1) := by decide +kernel
theorem dX1_turn_6 : decode cX1_turn 6 = .ok (.if_icmp .ge 92, 3) := by decide +kernel
theorem dX1_turn_9 : decode cX1_turn 9 = .ok (.aload_n 1, 1) := by decide +kernel
theorem dX1_turn_10 : decode cX1_turn 10 = .ok (.iload 5, 2) := by decide +kernel
theorem dX1_turn_12 : decode cX1_turn 12 = .ok (.invokevirtual 90, 3) := by decide +kernel
theorem dX1_turn_15 : decode cX1_turn 15 = .ok (.ifCond .ne 77, 3) := by decide +kernel
theorem dX1_turn_18 : decode cX1_turn 18 = .ok (.aload_n 0, 1) := by decide +kernel
theorem dX1_turn_19 : decode cX1_turn 19 = .ok (.getfield 18, 3) := by decide +kernel
theorem dX1_turn_22 : decode cX1_turn 22 = .ok (.iload 5, 2) := by decide +kernel
theorem dX1_turn_24 : decode cX1_turn 24 = .ok (.iconst 3, 1) := by decide +kernel
theorem dX1_turn_25 : decode cX1_turn 25 = .ok (.imul, 1) := by decide +kernel
theorem dX1_turn_26 : decode cX1_turn 26 = .ok (.iaload, 1) := by decide +kernel
theorem dX1_turn_27 : decode cX1_turn 27 = .ok (.i2f, 1) := by decide +kernel
theorem dX1_turn_28 : decode cX1_turn 28 = .ok (.fload_n 2, 1) := by decide +kernel
theorem dX1_turn_29 : decode cX1_turn 29 = .ok (.fmul, 1) := by decide +kernel
theorem dX1_turn_30 : decode cX1_turn 30 = .ok (.aload_n 0, 1) := by decide +kernel
theorem dX1_turn_31 : decode cX1_turn 31 = .ok (.getfield 18, 3) := by decide +kernel
theorem dX1_turn_34 : decode cX1_turn 34 = .ok (.iload 5, 2) := by decide +kernel
theorem dX1_turn_36 : decode cX1_turn 36 = .ok (.iconst 3, 1) := by decide +kernel
theorem dX1_turn_37 : decode cX1_turn 37 = .ok (.imul, 1) := by decide +kernel
theorem dX1_turn_38 : decode cX1_turn 38 = .ok (.iconst 1, 1) := by decide +kernel
theorem dX1_turn_39 : decode cX1_turn 39 = .ok (.iadd, 1) := by decide +kernel
theorem dX1_turn_40 : decode cX1_turn 40 = .ok (.iaload, 1) := by decide +kernel
theorem dX1_turn_41 : decode cX1_turn 41 = .ok (.i2f, 1) := by decide +kernel
theorem dX1_turn_42 : decode cX1_turn 42 = .ok (.fload_n 3, 1) := by decide +kernel
theorem dX1_turn_43 : decode cX1_turn 43 = .ok (.fmul, 1) := by decide +kernel
theorem dX1_turn_44 : decode cX1_turn 44 = .ok (.fadd, 1) := by decide +kernel
theorem dX1_turn_45 : decode cX1_turn 45 = .ok (.aload_n 0, 1) := by decide +kernel
theorem dX1_turn_46 : decode cX1_turn 46 = .ok (.getfield 18, 3) := by decide +kernel
theorem dX1_turn_49 : decode cX1_turn 49 = .ok (.iload 5, 2) := by decide +kernel
theorem dX1_turn_51 : decode cX1_turn 51 = .ok (.iconst 3, 1) := by decide +kernel
theorem dX1_turn_52 : decode cX1_turn 52 = .ok (.imul, 1) := by decide +kernel
theorem dX1_turn_53 : decode cX1_turn 53 = .ok (.iconst 2, 1) := by decide +kernel
theorem dX1_turn_54 : decode cX1_turn 54 = .ok (.iadd, 1) := by decide +kernel
theorem dX1_turn_55 : decode cX1_turn 55 = .ok (.iaload, 1) := by decide +kernel
theorem dX1_turn_56 : decode cX1_turn 56 = .ok (.i2f, 1) := by decide +kernel
theorem dX1_turn_57 : decode cX1_turn 57 = .ok (.fload 4, 2) := by decide +kernel
theorem dX1_turn_59 : decode cX1_turn 59 = .ok (.fmul, 1) := by decide +kernel
theorem dX1_turn_60 : decode cX1_turn 60 = .ok (.fadd, 1) := by decide +kernel
theorem dX1_turn_61 : decode cX1_turn 61 = .ok (.ldc 107, 2) := by decide +kernel
theorem dX1_turn_63 : decode cX1_turn 63 = .ok (.fdiv, 1) := by decide +kernel
theorem dX1_turn_64 : decode cX1_turn 64 = .ok (.fstore 6, 2) := by decide +kernel
theorem dX1_turn_66 : decode cX1_turn 66 = .ok (.aload_n 1, 1) := by decide +kernel
theorem dX1_turn_67 : decode cX1_turn 67 = .ok (.getfield 108, 3) := by decide +kernel
theorem dX1_turn_70 : decode cX1_turn 70 = .ok (.iload 5, 2) := by decide +kernel
theorem dX1_turn_72 : decode cX1_turn 72 = .ok (.aload_n 1, 1) := by decide +kernel
theorem dX1_turn_73 : decode cX1_turn 73 = .ok (.getfield 108, 3) := by decide +kernel
theorem dX1_turn_76 : decode cX1_turn 76 = .ok (.iload 5, 2) := by decide +kernel
theorem dX1_turn_78 : decode cX1_turn 78 = .ok (.faload, 1) := by decide +kernel
theorem dX1_turn_79 : decode cX1_turn 79 = .ok (.fload 6, 2) := by decide +kernel
theorem dX1_turn_81 : decode cX1_turn 81 = .ok (.fadd, 1) := by decide +kernel
theorem dX1_turn_82 : decode cX1_turn 82 = .ok (.aload_n 1, 1) := by decide +kernel
theorem dX1_turn_83 : decode cX1_turn 83 = .ok (.getfield 115, 3) := by decide +kernel
theorem dX1_turn_86 : decode cX1_turn 86 = .ok (.iconst 0, 1) := by decide +kernel
theorem dX1_turn_87 : decode cX1_turn 87 = .ok (.iaload, 1) := by decide +kernel
theorem dX1_turn_88 : decode cX1_turn 88 = .ok (.invokestatic 143, 3) := by decide +kernel
theorem dX1_turn_91 : decode cX1_turn 91 = .ok (.fastore, 1) := by decide +kernel
theorem dX1_turn_92 : decode cX1_turn 92 = .ok (.iinc 5 1, 3) := by decide +kernel
theorem dX1_turn_95 : decode cX1_turn 95 = .ok (.goto (-92), 3) := by decide +kernel
theorem dX1_turn_98 : decode cX1_turn 98 = .ok (.return_, 1) := by decide +kernel
set_option maxRecDepth 20000 in
theorem ggX1_turn_X4_isDead : GoodIn wsX1_turn wsX4_isDead := goodIn_r _ [6, 7, 22, 23, 24, 25, 26, 27, 28, 29, 30, 31, 32] rfl (by decide +kernel)
set_option maxRecDepth 20000 in
theorem ggX1_turn_X1_limited : GoodIn wsX1_turn wsX1_limited := goodIn_r _ [11] rfl (by decide +kernel)
set_option maxRecDepth 20000 in
theorem gX1_turn_X1_limited : GoodIn wsX1_turn (va_wsS RX1 143 yX1_limited wsX1_limited) := goodIn_app (goodIn_of _ (by decide +kernel)) ggX1_turn_X1_limited
theorem inX1_turn_X1 : ∀ w ∈ u_ws RX1 TX1 10, w ∈ wsX1_turn := fun w h => List.mem_cons_of_mem _ (List.mem_append_left _ (List.mem_append_right _ h))
theorem inX1_turn_X4 : ∀ w ∈ u_ws RX4 TX4 11, w ∈ wsX1_turn := fun w h => List.mem_cons_of_mem _ (List.mem_append_right _ h)
set_option maxRecDepth 100000 in
set_option maxHeartbeats 4000000 in
theorem m_X1_turn {l : Launch} {D : va_G} {E : Nat → ClassId} {T : Nat → Nat} (pl : Nat) (h : Nat) (u0 : Value) (u1 : Value) (u2 : Value) (u3 : Value) (u5 : Value) (u6 : Value) (u7 : Value) (u8 : Value) (u9 : Value) (v2 : Value) (v4 : Value) (v5 : Value) (v6 : Value) (v7 : Value) (v8 : Value) (v9 : Value) (v10 : Value) (ba : Nat) (hs : Nat) (ht : Nat) (d : Nat) (b : Nat → Int32) (f : Nat → UInt32) (t : Nat → Int32) (x1 : UInt32) (x2 : UInt32) (x3 : UInt32) (hd : d < 16) (hf : ∀ j, j < 4 → g_mg 135 (f j)) (hb2 : ∀ j, j < 12 → (b j).toInt.natAbs ≤ 2 ^ 1) (h1 : g_mg 241 x1) (h2 : g_mg 241 x2) (h3 : g_mg 241 x3) : g_M l D E T yX1_turn wsX1_turn 1 21 [.ref pl, .ref h, .float x1, .float x2, .float x3] [(pl, .inr (1, [u0, u1, u2, u3, .ref ba, u5, u6, u7, u8, u9])), (h, .inr (4, [.ref hs, .ref ht, v2, .int (nI d), v4, v5, v6, v7, v8, v9, v10])), (ba, .inl (E 0, 12, .inl b)), (hs, .inl (E 1, 4, .inr (.inr (.inl f)))), (ht, .inl (E 0, 4, .inl t))] [(pl, .inr (1, [u0, u1, u2, u3, .ref ba, u5, u6, u7, u8, u9])), (h, .inr (4, [.ref hs, .ref ht, v2, .int (nI d), v4, v5, v6, v7, v8, v9, v10])), (ba, .inl (E 0, 12, .inl b)), (hs, .inl (E 1, 4, .inr (.inr (.inl (amP d (tuF b x1 x2 x3 f (t 0)) f 4))))), (ht, .inl (E 0, 4, .inl t))] none := by
  refine g_M.of (cc := cX1_turn) (nL := 7) (ret := none) (own := RX1) (lv := [(0, .ref pl), (1, .ref h), (2, .float x1), (3, .float x2), (4, .float x3)]) (by decide) rfl rfl (Nat.le_of_ble_eq_true rfl) rfl ?_
  intro p e R s m args below meth c A Q H locs ls hR hQ hc hr hw hl
  have hx := hc.1
  have hb := hc.2.1
  have hts := hc.2.2.2.1
  have hown := hc.2.2.2.2.1
  refine lv_iconst (v := 0) hx hb dX1_turn_0 (by decide) ?_
  refine lv_istore (lv' := [(5, .int 0), (0, .ref pl), (1, .ref h), (2, .float x1), (3, .float x2), (4, .float x3)]) hx hb dX1_turn_1 hl (by decide) rfl (fun ls hl => ?_)
  have J3 : ∀ (k9 : Nat) (i : Nat), i + k9 = 4 → ∀ (H : Heap) (locs : List Loc) (ls : Array Slot), g_W D A s [(pl, .inr (1, [u0, u1, u2, u3, .ref ba, u5, u6, u7, u8, u9])), (h, .inr (4, [.ref hs, .ref ht, v2, .int (nI d), v4, v5, v6, v7, v8, v9, v10])), (ba, .inl (E 0, 12, .inl b)), (hs, .inl (E 1, 4, .inr (.inr (.inl (amP d (tuF b x1 x2 x3 f (t 0)) f i))))), (ht, .inl (E 0, 4, .inl t))] H locs → lv_has ls 7 [(0, .ref pl), (1, .ref h), (2, .float x1), (3, .float x2), (4, .float x3), (5, .int (nI i))] → W p l e R s m args below meth c H locs 0 0 Q (F0 m 3 ls []) := by
    intro k9
    induction k9 with
    | zero =>
      intro i h9   H locs ls hw hl
      have h9 : i = 4 := h9
      subst h9
      refine lv_iload hx hb dX1_turn_3 (lv_at hl 5 rfl) ?_
      refine lv_iconst (v := 4) hx hb dX1_turn_5 (by decide) ?_
      refine lv_icmp_ge (tgt := 98) hx hb dX1_turn_6 (by decide) (fun c_6 => ?_) (fun c_6 => absurd (by first | exact Int32.le_refl _ | decide) c_6)
      exact g_vret hQ hc hw hr rfl rfl dX1_turn_98
    | succ k9 ih =>
      intro i h9   H locs ls hw hl
      have h9b : i < 4 := by omega
      refine lv_iload hx hb dX1_turn_3 (lv_at hl 5 rfl) ?_
      refine lv_iconst (v := 4) hx hb dX1_turn_5 (by decide) ?_
      refine lv_icmp_ge (tgt := 98) hx hb dX1_turn_6 (by decide) (fun c_6 => absurd c_6 (nI_ge h9b (by decide))) (fun c_6 => ?_)
      refine lv_aload_n hx hb dX1_turn_9 rfl (lv_at hl 1 rfl) ?_
      refine lv_iload hx hb dX1_turn_10 (lv_at hl 5 rfl) ?_
      refine g_cVN (As := [.int (nI i)]) (n := 1) (rest := []) (wc := [(h, .inr (4, [.ref hs, .ref ht, v2, .int (nI d), v4, v5, v6, v7, v8, v9, v10]))]) (w1 := [(h, .inr (4, [.ref hs, .ref ht, v2, .int (nI d), v4, v5, v6, v7, v8, v9, v10]))]) (bytes := cX4_isDead) (maxL := 2) (ret := (some .boolean)) hc hw hl.1 (m_X4_isDead (l := l) (D := D) (E := E) (T := T) h (.ref hs) (.ref ht) v2 v4 v5 v6 v7 v8 v9 v10 d i (by first | assumption | omega | decide) (by first | assumption | omega | decide)) ggX1_turn_X4_isDead rfl 59 rfl 4 3 5 rfl rfl rfl (by decide +kernel) (by rw [hR]; exact ⟨Nat.le_of_ble_eq_true rfl, Nat.le_of_ble_eq_true rfl⟩) [1] 1 4 rfl rfl (by decide) rfl [h] rfl rfl rfl rfl (Nat.le_of_ble_eq_true rfl) dX1_turn_12 ⟨Nat.zero_le _, Nat.zero_le _⟩ (fun H locs hw => ?_)
      have hw : g_W D A s [(pl, .inr (1, [u0, u1, u2, u3, .ref ba, u5, u6, u7, u8, u9])), (h, .inr (4, [.ref hs, .ref ht, v2, .int (nI d), v4, v5, v6, v7, v8, v9, v10])), (ba, .inl (E 0, 12, .inl b)), (hs, .inl (E 1, 4, .inr (.inr (.inl (amP d (tuF b x1 x2 x3 f (t 0)) f i))))), (ht, .inl (E 0, 4, .inl t))] H locs := hw
      refine lv_if_ne (tgt := 92) hx hb dX1_turn_15 (by decide) (fun c_15 => ?_) (fun c_15 => ?_)
      · skip
        have k_15 := b2i_ne c_15
        refine lv_iinc (v := nI (i + 1)) (lv' := [(5, .int (nI (i + 1))), (0, .ref pl), (1, .ref h), (2, .float x1), (3, .float x2), (4, .float x3)]) hx hb dX1_turn_92 hl (k := 5) rfl (n_inc1 rfl) (by decide) rfl (fun ls hl => ?_)
        refine lv_goto (tgt := 3) hx hb dX1_turn_95 (by decide) ?_
        have hw : g_W D A s [(pl, .inr (1, [u0, u1, u2, u3, .ref ba, u5, u6, u7, u8, u9])), (h, .inr (4, [.ref hs, .ref ht, v2, .int (nI d), v4, v5, v6, v7, v8, v9, v10])), (ba, .inl (E 0, 12, .inl b)), (hs, .inl (E 1, 4, .inr (.inr (.inl (amP d (tuF b x1 x2 x3 f (t 0)) f (i + 1)))))), (ht, .inl (E 0, 4, .inl t))] H locs := by
          have e3 : (amP d (tuF b x1 x2 x3 f (t 0)) f i) = (amP d (tuF b x1 x2 x3 f (t 0)) f (i + 1)) := by exact am_skip _ f k_15
          rw [e3] at hw
          exact hw
        exact ih (i + 1) (by omega)   _ _ _ hw (lv_sub hl [1, 2, 3, 4, 5, 0] rfl)
      · skip
        have k_15 := b2i_eq c_15
        refine lv_aload_n hx hb dX1_turn_18 rfl (lv_at hl 0 rfl) ?_
        refine g_get (TT := TX1) hc hw inX1_turn_X1 0 4 1 rfl rfl (by decide) rfl rfl dX1_turn_19 ?_
        refine lv_iload hx hb dX1_turn_22 (lv_at hl 5 rfl) ?_
        refine lv_iconst (v := 3) hx hb dX1_turn_24 (by decide) ?_
        refine lv_imul hx hb dX1_turn_25 ?_
        refine g_ild hc hw 2 (i * 3) rfl (n_mul rfl rfl) (by omega) (by decide) dX1_turn_26 ?_
        refine lv_i2f hx hb dX1_turn_27 ?_
        refine lv_fload_n hx hb dX1_turn_28 rfl (lv_at hl 2 rfl) ?_
        refine lv_fmul hx hb dX1_turn_29 (g_nn (g_mgmul (Ka := 129) (Kb := 241) (K := 244) (g_mgis 1 (hb2 _ (by omega))) h1 (by decide) (by decide)) (by decide)) ?_
        refine lv_aload_n hx hb dX1_turn_30 rfl (lv_at hl 0 rfl) ?_
        refine g_get (TT := TX1) hc hw inX1_turn_X1 0 4 1 rfl rfl (by decide) rfl rfl dX1_turn_31 ?_
        refine lv_iload hx hb dX1_turn_34 (lv_at hl 5 rfl) ?_
        refine lv_iconst (v := 3) hx hb dX1_turn_36 (by decide) ?_
        refine lv_imul hx hb dX1_turn_37 ?_
        refine lv_iconst (v := 1) hx hb dX1_turn_38 (by decide) ?_
        refine lv_iadd hx hb dX1_turn_39 ?_
        refine g_ild hc hw 2 ((i * 3) + 1) rfl (n_add (n_mul rfl rfl) rfl) (by omega) (by decide) dX1_turn_40 ?_
        refine lv_i2f hx hb dX1_turn_41 ?_
        refine lv_fload_n hx hb dX1_turn_42 rfl (lv_at hl 3 rfl) ?_
        refine lv_fmul hx hb dX1_turn_43 (g_nn (g_mgmul (Ka := 129) (Kb := 241) (K := 244) (g_mgis 1 (hb2 _ (by omega))) h2 (by decide) (by decide)) (by decide)) ?_
        refine lv_fadd hx hb dX1_turn_44 (g_nn (g_mgadd (Ka := 244) (Kb := 244) (K := 244) (g_mgmul (Ka := 129) (Kb := 241) (K := 244) (g_mgis 1 (hb2 _ (by omega))) h1 (by decide) (by decide)) (g_mgmul (Ka := 129) (Kb := 241) (K := 244) (g_mgis 1 (hb2 _ (by omega))) h2 (by decide) (by decide)) (by decide) (by decide) (by decide)) (by decide)) ?_
        refine lv_aload_n hx hb dX1_turn_45 rfl (lv_at hl 0 rfl) ?_
        refine g_get (TT := TX1) hc hw inX1_turn_X1 0 4 1 rfl rfl (by decide) rfl rfl dX1_turn_46 ?_
        refine lv_iload hx hb dX1_turn_49 (lv_at hl 5 rfl) ?_
        refine lv_iconst (v := 3) hx hb dX1_turn_51 (by decide) ?_
        refine lv_imul hx hb dX1_turn_52 ?_
        refine lv_iconst (v := 2) hx hb dX1_turn_53 (by decide) ?_
        refine lv_iadd hx hb dX1_turn_54 ?_
        refine g_ild hc hw 2 ((i * 3) + 2) rfl (n_add (n_mul rfl rfl) rfl) (by omega) (by decide) dX1_turn_55 ?_
        refine lv_i2f hx hb dX1_turn_56 ?_
        refine lv_fload hx hb dX1_turn_57 (lv_at hl 4 rfl) ?_
        refine lv_fmul hx hb dX1_turn_59 (g_nn (g_mgmul (Ka := 129) (Kb := 241) (K := 244) (g_mgis 1 (hb2 _ (by omega))) h3 (by decide) (by decide)) (by decide)) ?_
        refine lv_fadd hx hb dX1_turn_60 (g_nn (g_mgadd (Ka := 246) (Kb := 244) (K := 246) (g_mgadd (Ka := 244) (Kb := 244) (K := 244) (g_mgmul (Ka := 129) (Kb := 241) (K := 244) (g_mgis 1 (hb2 _ (by omega))) h1 (by decide) (by decide)) (g_mgmul (Ka := 129) (Kb := 241) (K := 244) (g_mgis 1 (hb2 _ (by omega))) h2 (by decide) (by decide)) (by decide) (by decide) (by decide)) (g_mgmul (Ka := 129) (Kb := 241) (K := 244) (g_mgis 1 (hb2 _ (by omega))) h3 (by decide) (by decide)) (by decide) (by decide) (by decide)) (by decide)) ?_
        refine lv_ldcf (v := 1082130432) hx hb hown (hts _ (List.mem_of_getElem? (i := 2) rfl)) dX1_turn_61 ?_
        refine lv_fdiv hx hb dX1_turn_63 (g_nn (g_mgdiv (K := 247) (L := 129) (g_mgadd (Ka := 246) (Kb := 244) (K := 246) (g_mgadd (Ka := 244) (Kb := 244) (K := 244) (g_mgmul (Ka := 129) (Kb := 241) (K := 244) (g_mgis 1 (hb2 _ (by omega))) h1 (by decide) (by decide)) (g_mgmul (Ka := 129) (Kb := 241) (K := 244) (g_mgis 1 (hb2 _ (by omega))) h2 (by decide) (by decide)) (by decide) (by decide) (by decide)) (g_mgmul (Ka := 129) (Kb := 241) (K := 244) (g_mgis 1 (hb2 _ (by omega))) h3 (by decide) (by decide)) (by decide) (by decide) (by decide)) (by decide) (by decide) (by decide) (by decide)) (by decide)) ?_
        refine lv_fstore (lv' := [(6, .float (FP.fdiv (FP.fadd (FP.fadd (FP.fmul (FP.i2f (b (i * 3))) x1) (FP.fmul (FP.i2f (b ((i * 3) + 1))) x2)) (FP.fmul (FP.i2f (b ((i * 3) + 2))) x3)) 1082130432)), (0, .ref pl), (1, .ref h), (2, .float x1), (3, .float x2), (4, .float x3), (5, .int (nI i))]) hx hb dX1_turn_64 hl (by decide) rfl (fun ls hl => ?_)
        refine lv_aload_n hx hb dX1_turn_66 rfl (lv_at hl 2 rfl) ?_
        refine g_getN (TT := TX4) hc hw inX1_turn_X4 1 0 17 rfl rfl (by decide) rfl rfl dX1_turn_67 ?_
        refine lv_iload hx hb dX1_turn_70 (lv_at hl 6 rfl) ?_
        refine lv_aload_n hx hb dX1_turn_72 rfl (lv_at hl 2 rfl) ?_
        refine g_getN (TT := TX4) hc hw inX1_turn_X4 1 0 17 rfl rfl (by decide) rfl rfl dX1_turn_73 ?_
        refine lv_iload hx hb dX1_turn_76 (lv_at hl 6 rfl) ?_
        refine g_fld hc hw 3 i rfl rfl (by omega) (by decide) dX1_turn_78 ?_
        refine lv_fload hx hb dX1_turn_79 (lv_at hl 0 rfl) ?_
        refine lv_fadd hx hb dX1_turn_81 (g_nn (g_mgadd (Ka := 135) (Kb := 247) (K := 247) (by rw [am_at]; exact hf i (by omega)) (g_mgdiv (K := 247) (L := 129) (g_mgadd (Ka := 246) (Kb := 244) (K := 246) (g_mgadd (Ka := 244) (Kb := 244) (K := 244) (g_mgmul (Ka := 129) (Kb := 241) (K := 244) (g_mgis 1 (hb2 _ (by omega))) h1 (by decide) (by decide)) (g_mgmul (Ka := 129) (Kb := 241) (K := 244) (g_mgis 1 (hb2 _ (by omega))) h2 (by decide) (by decide)) (by decide) (by decide) (by decide)) (g_mgmul (Ka := 129) (Kb := 241) (K := 244) (g_mgis 1 (hb2 _ (by omega))) h3 (by decide) (by decide)) (by decide) (by decide) (by decide)) (by decide) (by decide) (by decide) (by decide)) (by decide) (by decide) (by decide)) (by decide)) ?_
        refine lv_aload_n hx hb dX1_turn_82 rfl (lv_at hl 2 rfl) ?_
        refine g_getN (TT := TX4) hc hw inX1_turn_X4 1 1 19 rfl rfl (by decide) rfl rfl dX1_turn_83 ?_
        refine lv_iconst (v := 0) hx hb dX1_turn_86 (by decide) ?_
        refine g_ild hc hw 4 0 rfl rfl (by omega) (by decide) dX1_turn_87 ?_
        refine g_cS (As := [.float (FP.fadd ((amP d (tuF b x1 x2 x3 f (t 0)) f i) i) (FP.fdiv (FP.fadd (FP.fadd (FP.fmul (FP.i2f (b (i * 3))) x1) (FP.fmul (FP.i2f (b ((i * 3) + 1))) x2)) (FP.fmul (FP.i2f (b ((i * 3) + 2))) x3)) 1082130432)), .int (t 0)]) (n := 2) (rest := [.int (nI i), .ref hs]) (wc := []) (w1 := []) (bytes := cX1_limited) (maxL := 2) (ret := (some .float)) hc hw hl.1 (m_X1_limited (l := l) (D := D) (E := E) (T := T) (FP.fadd ((amP d (tuF b x1 x2 x3 f (t 0)) f i) i) (FP.fdiv (FP.fadd (FP.fadd (FP.fmul (FP.i2f (b (i * 3))) x1) (FP.fmul (FP.i2f (b ((i * 3) + 1))) x2)) (FP.fmul (FP.i2f (b ((i * 3) + 2))) x3)) 1082130432)) (t 0)) gX1_turn_X1_limited rfl (by decide +kernel) (by rw [hR]; exact ⟨Nat.le_of_ble_eq_true rfl, Nat.le_of_ble_eq_true rfl⟩) [] (by decide) rfl [] rfl rfl rfl rfl (Nat.le_of_ble_eq_true rfl) dX1_turn_88 ⟨Nat.zero_le _, Nat.zero_le _⟩ (fun H locs hw => ?_)
        have hw : g_W D A s [(pl, .inr (1, [u0, u1, u2, u3, .ref ba, u5, u6, u7, u8, u9])), (h, .inr (4, [.ref hs, .ref ht, v2, .int (nI d), v4, v5, v6, v7, v8, v9, v10])), (ba, .inl (E 0, 12, .inl b)), (hs, .inl (E 1, 4, .inr (.inr (.inl (amP d (tuF b x1 x2 x3 f (t 0)) f i))))), (ht, .inl (E 0, 4, .inl t))] H locs := hw
        refine g_fst hc hw 3 i rfl rfl (by omega) (by decide) dX1_turn_91 (fun H locs hw => ?_)
        have hw : g_W D A s [(pl, .inr (1, [u0, u1, u2, u3, .ref ba, u5, u6, u7, u8, u9])), (h, .inr (4, [.ref hs, .ref ht, v2, .int (nI d), v4, v5, v6, v7, v8, v9, v10])), (ba, .inl (E 0, 12, .inl b)), (hs, .inl (E 1, 4, .inr (.inr (.inl (vf_upd (amP d (tuF b x1 x2 x3 f (t 0)) f i) i (limF (FP.fadd ((amP d (tuF b x1 x2 x3 f (t 0)) f i) i) (FP.fdiv (FP.fadd (FP.fadd (FP.fmul (FP.i2f (b (i * 3))) x1) (FP.fmul (FP.i2f (b ((i * 3) + 1))) x2)) (FP.fmul (FP.i2f (b ((i * 3) + 2))) x3)) 1082130432)) (t 0))))))), (ht, .inl (E 0, 4, .inl t))] H locs := hw
        refine lv_iinc (v := nI (i + 1)) (lv' := [(5, .int (nI (i + 1))), (6, .float (FP.fdiv (FP.fadd (FP.fadd (FP.fmul (FP.i2f (b (i * 3))) x1) (FP.fmul (FP.i2f (b ((i * 3) + 1))) x2)) (FP.fmul (FP.i2f (b ((i * 3) + 2))) x3)) 1082130432)), (0, .ref pl), (1, .ref h), (2, .float x1), (3, .float x2), (4, .float x3)]) hx hb dX1_turn_92 hl (k := 6) rfl (n_inc1 rfl) (by decide) rfl (fun ls hl => ?_)
        refine lv_goto (tgt := 3) hx hb dX1_turn_95 (by decide) ?_
        have hw : g_W D A s [(pl, .inr (1, [u0, u1, u2, u3, .ref ba, u5, u6, u7, u8, u9])), (h, .inr (4, [.ref hs, .ref ht, v2, .int (nI d), v4, v5, v6, v7, v8, v9, v10])), (ba, .inl (E 0, 12, .inl b)), (hs, .inl (E 1, 4, .inr (.inr (.inl (amP d (tuF b x1 x2 x3 f (t 0)) f (i + 1)))))), (ht, .inl (E 0, 4, .inl t))] H locs := by
          have e3 : (vf_upd (amP d (tuF b x1 x2 x3 f (t 0)) f i) i (limF (FP.fadd ((amP d (tuF b x1 x2 x3 f (t 0)) f i) i) (FP.fdiv (FP.fadd (FP.fadd (FP.fmul (FP.i2f (b (i * 3))) x1) (FP.fmul (FP.i2f (b ((i * 3) + 1))) x2)) (FP.fmul (FP.i2f (b ((i * 3) + 2))) x3)) 1082130432)) (t 0))) = (amP d (tuF b x1 x2 x3 f (t 0)) f (i + 1)) := by exact am_step f k_15 (by rw [am_at]; rfl)
          rw [e3] at hw
          exact hw
        exact ih (i + 1) (by omega)   _ _ _ hw (lv_sub hl [2, 3, 4, 5, 6, 0] rfl)
  have hw : g_W D A s [(pl, .inr (1, [u0, u1, u2, u3, .ref ba, u5, u6, u7, u8, u9])), (h, .inr (4, [.ref hs, .ref ht, v2, .int (nI d), v4, v5, v6, v7, v8, v9, v10])), (ba, .inl (E 0, 12, .inl b)), (hs, .inl (E 1, 4, .inr (.inr (.inl (amP d (tuF b x1 x2 x3 f (t 0)) f 0))))), (ht, .inl (E 0, 4, .inl t))] H locs := by
    have e3 : f = (amP d (tuF b x1 x2 x3 f (t 0)) f 0) := by exact am_0 d _ f
    rw [e3] at hw
    exact hw
  exact J3 4 0 (by omega)   _ _ _ hw (lv_sub hl [1, 2, 3, 4, 5, 0] rfl)
end P13c
