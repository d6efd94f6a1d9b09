section P13a
theorem dX1_steer_0 : decode cX1_steer 0 = .ok (.aload_n 0, 1) := by decide +kernel
theorem dX1_steer_1 : decode cX1_steer 1 = .ok (.aload_n 1, 1) := by decide +kernel
theorem dX1_steer_2 : decode cX1_steer 2 = .ok (.invokevirtual 68, 3) := by decide +kernel
theorem dX1_steer_5 : decode cX1_steer 5 = .ok (.getstatic 71, 3) := by decide +kernel
theorem dX1_steer_8 : decode cX1_steer 8 = .ok (.iconst 0, 1) := by decide +kernel
theorem dX1_steer_9 : decode cX1_steer 9 = .ok (.iaload, 1) := by decide +kernel
theorem dX1_steer_10 : decode cX1_steer 10 = .ok (.istore_n 2, 1) := by decide +kernel
theorem dX1_steer_11 : decode cX1_steer 11 = .ok (.aload_n 0, 1) := by decide +kernel
theorem dX1_steer_12 : decode cX1_steer 12 = .ok (.aload_n 1, 1) := by decide +kernel
theorem dX1_steer_13 : decode cX1_steer 13 = .ok (.iload_n 2, 1) := by decide +kernel
theorem dX1_steer_14 : decode cX1_steer 14 = .ok (.invokevirtual 74, 3) := by decide +kernel
theorem dX1_steer_17 : decode cX1_steer 17 = .ok (.aload_n 1, 1) := by decide +kernel
theorem dX1_steer_18 : decode cX1_steer 18 = .ok (.getfield 78, 3) := by decide +kernel
theorem dX1_steer_21 : decode cX1_steer 21 = .ok (.ifCond .ne 93, 3) := by decide +kernel
theorem dX1_steer_24 : decode cX1_steer 24 = .ok (.aload_n 0, 1) := by decide +kernel
theorem dX1_steer_25 : decode cX1_steer 25 = .ok (.getfield 81, 3) := by decide +kernel
theorem dX1_steer_28 : decode cX1_steer 28 = .ok (.istore_n 3, 1) := by decide +kernel
theorem dX1_steer_29 : decode cX1_steer 29 = .ok (.aload_n 0, 1) := by decide +kernel
theorem dX1_steer_30 : decode cX1_steer 30 = .ok (.getfield 84, 3) := by decide +kernel
theorem dX1_steer_33 : decode cX1_steer 33 = .ok (.fstore 4, 2) := by decide +kernel
theorem dX1_steer_35 : decode cX1_steer 35 = .ok (.iconst 1, 1) := by decide +kernel
theorem dX1_steer_36 : decode cX1_steer 36 = .ok (.istore 5, 2) := by decide +kernel
theorem dX1_steer_38 : decode cX1_steer 38 = .ok (.iload 5, 2) := by decide +kernel
theorem dX1_steer_40 : decode cX1_steer 40 = .ok (.getstatic 71, 3) := by decide +kernel
theorem dX1_steer_43 : decode cX1_steer 43 = .ok (.arraylength, 1) := by decide +kernel
theorem dX1_steer_44 : decode cX1_steer 44 = .ok (.if_icmp .ge 64, 3) := by decide +kernel
theorem dX1_steer_47 : decode cX1_steer 47 = .ok (.aload_n 0, 1) := by decide +kernel
theorem dX1_steer_48 : decode cX1_steer 48 = .ok (.aload_n 1, 1) := by decide +kernel
theorem dX1_steer_49 : decode cX1_steer 49 = .ok (.getstatic 71, 3) := by decide +kernel
theorem dX1_steer_52 : decode cX1_steer 52 = .ok (.iload 5, 2) := by decide +kernel
theorem dX1_steer_54 : decode cX1_steer 54 = .ok (.iaload, 1) := by decide +kernel
theorem dX1_steer_55 : decode cX1_steer 55 = .ok (.invokevirtual 74, 3) := by decide +kernel
theorem dX1_steer_58 : decode cX1_steer 58 = .ok (.aload_n 0, 1) := by decide +kernel
theorem dX1_steer_59 : decode cX1_steer 59 = .ok (.getfield 81, 3) := by decide +kernel
theorem dX1_steer_62 : decode cX1_steer 62 = .ok (.iload_n 3, 1) := by decide +kernel
theorem dX1_steer_63 : decode cX1_steer 63 = .ok (.if_icmp .lt 21, 3) := by decide +kernel
theorem dX1_steer_66 : decode cX1_steer 66 = .ok (.aload_n 0, 1) := by decide +kernel
theorem dX1_steer_67 : decode cX1_steer 67 = .ok (.getfield 81, 3) := by decide +kernel
theorem dX1_steer_70 : decode cX1_steer 70 = .ok (.iload_n 3, 1) := by decide +kernel
theorem dX1_steer_71 : decode cX1_steer 71 = .ok (.if_icmp .ne 31, 3) := by decide +kernel
theorem dX1_steer_74 : decode cX1_steer 74 = .ok (.aload_n 0, 1) := by decide +kernel
theorem dX1_steer_75 : decode cX1_steer 75 = .ok (.getfield 84, 3) := by decide +kernel
theorem dX1_steer_78 : decode cX1_steer 78 = .ok (.fload 4, 2) := by decide +kernel
theorem dX1_steer_80 : decode cX1_steer 80 = .ok (.fcmp .g, 1) := by decide +kernel
theorem dX1_steer_81 : decode cX1_steer 81 = .ok (.ifCond .ge 21, 3) := by decide +kernel
theorem dX1_steer_84 : decode cX1_steer 84 = .ok (.getstatic 71, 3) := by decide +kernel
theorem dX1_steer_87 : decode cX1_steer 87 = .ok (.iload 5, 2) := by decide +kernel
theorem dX1_steer_89 : decode cX1_steer 89 = .ok (.iaload, 1) := by decide +kernel
theorem dX1_steer_90 : decode cX1_steer 90 = .ok (.istore_n 2, 1) := by decide +kernel
theorem dX1_steer_91 : decode cX1_steer 91 = .ok (.aload_n 0, 1) := by decide +kernel
theorem dX1_steer_92 : decode cX1_steer 92 = .ok (.getfield 81, 3) := by decide +kernel
theorem dX1_steer_95 : decode cX1_steer 95 = .ok (.istore_n 3, 1) := by decide +kernel
theorem dX1_steer_96 : decode cX1_steer 96 = .ok (.aload_n 0, 1) := by decide +kernel
theorem dX1_steer_97 : decode cX1_steer 97 = .ok (.getfield 84, 3) := by decide +kernel
theorem dX1_steer_100 : decode cX1_steer 100 = .ok (.fstore 4, 2) := by decide +kernel
theorem dX1_steer_102 : decode cX1_steer 102 = .ok (.iinc 5 1, 3) := by decide +kernel
theorem dX1_steer_105 : decode cX1_steer 105 = .ok (.goto (-67), 3) := by decide +kernel
theorem dX1_steer_108 : decode cX1_steer 108 = .ok (.aload_n 0, 1) := by decide +kernel
theorem dX1_steer_109 : decode cX1_steer 109 = .ok (.aload_n 1, 1) := by decide +kernel
theorem dX1_steer_110 : decode cX1_steer 110 = .ok (.iload_n 2, 1) := by decide +kernel
theorem dX1_steer_111 : decode cX1_steer 111 = .ok (.invokevirtual 74, 3) := by decide +kernel
theorem dX1_steer_114 : decode cX1_steer 114 = .ok (.aload_n 0, 1) := by decide +kernel
theorem dX1_steer_115 : decode cX1_steer 115 = .ok (.iload_n 2, 1) := by decide +kernel
theorem dX1_steer_116 : decode cX1_steer 116 = .ok (.putfield 87, 3) := by decide +kernel
theorem dX1_steer_119 : decode cX1_steer 119 = .ok (.return_, 1) := by decide +kernel
set_option maxRecDepth 20000 in
theorem ggX1_steer_X1_push : GoodIn wsX1_steer wsX1_push := goodIn_r _ [8, 9, 10, 11, 12, 13, 14, 15, 7, 16, 30, 31, 32, 33, 34, 35, 36, 37, 38, 39, 40, 41, 42, 43, 44, 45, 46, 47, 48, 49, 50] rfl (by decide +kernel)
set_option maxRecDepth 20000 in
theorem gX1_steer_X1_push : GoodIn wsX1_steer (wsV RX1 68 RX1 yX1_push wsX1_push) := goodIn_app (goodIn_of _ (by decide +kernel)) ggX1_steer_X1_push
set_option maxRecDepth 20000 in
theorem ggX1_steer_X1_weigh : GoodIn wsX1_steer wsX1_weigh := goodIn_r _ [20, 1, 2, 11, 21, 22, 23, 24, 25, 26, 27, 28, 29, 41, 42, 43, 44, 45, 46, 47, 48, 49, 50, 30, 31, 32, 33, 34, 35, 36, 37, 38, 39, 40] rfl (by decide +kernel)
set_option maxRecDepth 20000 in
theorem gX1_steer_X1_weigh : GoodIn wsX1_steer (wsV RX1 74 RX1 yX1_weigh wsX1_weigh) := goodIn_app (goodIn_of _ (by decide +kernel)) ggX1_steer_X1_weigh
theorem inX1_steer_X1 : ∀ w ∈ u_ws RX1 TX1 10, w ∈ wsX1_steer := fun w h => List.mem_cons_of_mem _ (List.mem_append_right _ h)
theorem inX1_steer_X4 : ∀ w ∈ u_ws RX4 TX4 11, w ∈ wsX1_steer := fun w h => List.mem_cons_of_mem _ (List.mem_append_left _ (List.mem_append_right _ h))
set_option maxRecDepth 100000 in
set_option maxHeartbeats 4000000 in
theorem m_X1_steer {l : Launch} {D : va_G} {E : Nat → ClassId} {T : Nat → Nat} (pl : Nat) (h : Nat) (u0 : Value) (u1 : Value) (u7 : Value) (u8 : Value) (u9 : Value) (v4 : Value) (v5 : Value) (v6 : Value) (v7 : Value) (v8 : Value) (v9 : Value) (nw : Nat) (xa : Nat) (ba : Nat) (pa : Nat) (aa : Nat) (hs : Nat) (ht : Nat) (wq : Nat) (d : Nat) (ck : Nat) (x : Nat → Int32) (b : Nat → Int32) (ge : Nat → UInt32) (g : Nat → UInt32) (f : Nat → UInt32) (t : Nat → Int32) (w : Nat → Int32) (hd : d < 16) (hf : ∀ j, j < 4 → g_mg 135 (f j)) (hn : nw ≤ 6) (hck : ck < 2 ^ 31) : g_M l D E T yX1_steer wsX1_steer 2 48 [.ref pl, .ref h] [(pl, .inr (1, [u0, u1, .int (nI nw), .ref xa, .ref ba, .ref pa, .ref aa, u7, u8, u9])), (h, .inr (4, [.ref hs, .ref ht, .ref wq, .int (nI d), v4, v5, v6, v7, v8, v9, .int (nI ck)])), (xa, .inl (E 0, 3, .inl x)), (ba, .inl (E 0, 12, .inl b)), (pa, .inl (E 1, 4, .inr (.inr (.inl ge)))), (aa, .inl (E 1, 4, .inr (.inr (.inl g)))), (hs, .inl (E 1, 4, .inr (.inr (.inl f)))), (ht, .inl (E 0, 4, .inl t)), (wq, .inl (E 0, 18, .inl w))] [(pl, .inr (1, [u0, u1, .int (nI nw), .ref xa, .ref ba, .ref pa, .ref aa, .int (stF d f (epF b w nw ck x) (FP.i2f (t 1))), .int (neF d (FP.i2f (t 1)) (aiF f (epF b w nw ck x) (stF d f (epF b w nw ck x) (FP.i2f (t 1)))) 4), .float (heF d (aiF f (epF b w nw ck x) (stF d f (epF b w nw ck x) (FP.i2f (t 1)))) 4)])), (h, .inr (4, [.ref hs, .ref ht, .ref wq, .int (nI d), v4, v5, v6, v7, v8, v9, .int (nI ck)])), (xa, .inl (E 0, 3, .inl x)), (ba, .inl (E 0, 12, .inl b)), (pa, .inl (E 1, 4, .inr (.inr (.inl (epF b w nw ck x))))), (aa, .inl (E 1, 4, .inr (.inr (.inl (amP d (aiF f (epF b w nw ck x) (stF d f (epF b w nw ck x) (FP.i2f (t 1)))) g 4))))), (hs, .inl (E 1, 4, .inr (.inr (.inl f)))), (ht, .inl (E 0, 4, .inl t)), (wq, .inl (E 0, 18, .inl w))] none := by
  obtain ⟨bs, hbs⟩ : ∃ bs : Nat → Int32, bs = bsF d f (epF b w nw ck x) (FP.i2f (t 1)) := ⟨_, rfl⟩
  have hb0 : g_tv 1 0 = bs 0 := by rw [hbs]; rfl
  have hbT := fun (k : Nat) => @bsT d f (epF b w nw ck x) (FP.i2f (t 1)) k
  have hbN := fun (k : Nat) => @bsN d f (epF b w nw ck x) (FP.i2f (t 1)) k
  rw [← hbs] at hbT hbN
  refine g_M.of (cc := cX1_steer) (nL := 6) (ret := none) (own := RX1) (lv := [(0, .ref pl), (1, .ref h)]) (by decide) rfl rfl (Nat.le_of_ble_eq_true rfl) rfl ?_
  intro p e R s m args below meth c A Q H locs ls hR hQ hc hr hw hl
  have hx := hc.1
  have hb := hc.2.1
  have hts := hc.2.2.2.1
  have hown := hc.2.2.2.2.1
  refine lv_aload_n hx hb dX1_steer_0 rfl (lv_at hl 0 rfl) ?_
  refine lv_aload_n hx hb dX1_steer_1 rfl (lv_at hl 1 rfl) ?_
  refine g_cV (As := [.ref h]) (n := 1) (rest := []) (wc := [(pl, .inr (1, [u0, u1, .int (nI nw), .ref xa, .ref ba, .ref pa, .ref aa, u7, u8, u9])), (h, .inr (4, [.ref hs, .ref ht, .ref wq, .int (nI d), v4, v5, v6, v7, v8, v9, .int (nI ck)])), (xa, .inl (E 0, 3, .inl x)), (ba, .inl (E 0, 12, .inl b)), (pa, .inl (E 1, 4, .inr (.inr (.inl ge)))), (wq, .inl (E 0, 18, .inl w))]) (w1 := [(pl, .inr (1, [u0, u1, .int (nI nw), .ref xa, .ref ba, .ref pa, .ref aa, u7, u8, u9])), (h, .inr (4, [.ref hs, .ref ht, .ref wq, .int (nI d), v4, v5, v6, v7, v8, v9, .int (nI ck)])), (xa, .inl (E 0, 3, .inl x)), (ba, .inl (E 0, 12, .inl b)), (pa, .inl (E 1, 4, .inr (.inr (.inl (epF b w nw ck x))))), (wq, .inl (E 0, 18, .inl w))]) (bytes := cX1_push) (maxL := 6) (ret := none) hc hw hl.1 (m_X1_push (l := l) (D := D) (E := E) (T := T) pl h u0 u1 (.ref aa) u7 u8 u9 (.ref hs) (.ref ht) (.int (nI d)) v4 v5 v6 v7 v8 v9 nw xa ba pa wq ck x b ge w (by first | assumption | omega | decide) (by first | assumption | omega | decide)) gX1_steer_X1_push rfl (by decide +kernel) (by rw [hR]; exact ⟨Nat.le_of_ble_eq_true rfl, Nat.le_of_ble_eq_true rfl⟩) [0, 1, 2, 3, 4, 8] 0 1 rfl rfl (by decide) rfl [pl, h, xa, ba, pa, wq] rfl rfl rfl rfl (Nat.le_of_ble_eq_true rfl) dX1_steer_2 ⟨Nat.zero_le _, Nat.zero_le _⟩ (fun H locs hw => ?_)
  have hw : g_W D A s [(pl, .inr (1, [u0, u1, .int (nI nw), .ref xa, .ref ba, .ref pa, .ref aa, u7, u8, u9])), (h, .inr (4, [.ref hs, .ref ht, .ref wq, .int (nI d), v4, v5, v6, v7, v8, v9, .int (nI ck)])), (xa, .inl (E 0, 3, .inl x)), (ba, .inl (E 0, 12, .inl b)), (pa, .inl (E 1, 4, .inr (.inr (.inl (epF b w nw ck x))))), (aa, .inl (E 1, 4, .inr (.inr (.inl g)))), (hs, .inl (E 1, 4, .inr (.inr (.inl f)))), (ht, .inl (E 0, 4, .inl t)), (wq, .inl (E 0, 18, .inl w))] H locs := hw
  refine g_gstN hc hw 1 61 (by decide) rfl dX1_steer_5 ?_
  refine lv_iconst (v := 0) hx hb dX1_steer_8 (by decide) ?_
  refine g_tld hc hw 1 0 (by decide) rfl (by first | decide | (show _ < 9; omega)) dX1_steer_9 ?_
  refine lv_istore_n (lv' := [(2, .int (g_tv 1 0)), (0, .ref pl), (1, .ref h)]) hx hb dX1_steer_10 rfl hl (by decide) rfl (fun ls hl => ?_)
  refine lv_aload_n hx hb dX1_steer_11 rfl (lv_at hl 1 rfl) ?_
  refine lv_aload_n hx hb dX1_steer_12 rfl (lv_at hl 2 rfl) ?_
  refine lv_iload_n hx hb dX1_steer_13 rfl (lv_at hl 0 rfl) ?_
  refine g_cV (As := [.ref h, .int (g_tv 1 0)]) (n := 2) (rest := []) (wc := [(pl, .inr (1, [u0, u1, .int (nI nw), .ref xa, .ref ba, .ref pa, .ref aa, u7, u8, u9])), (h, .inr (4, [.ref hs, .ref ht, .ref wq, .int (nI d), v4, v5, v6, v7, v8, v9, .int (nI ck)])), (pa, .inl (E 1, 4, .inr (.inr (.inl (epF b w nw ck x))))), (aa, .inl (E 1, 4, .inr (.inr (.inl g)))), (hs, .inl (E 1, 4, .inr (.inr (.inl f)))), (ht, .inl (E 0, 4, .inl t))]) (w1 := [(pl, .inr (1, [u0, u1, .int (nI nw), .ref xa, .ref ba, .ref pa, .ref aa, u7, .int (neF d (FP.i2f (t 1)) (aiF f (epF b w nw ck x) (g_tv 1 0)) 4), .float (heF d (aiF f (epF b w nw ck x) (g_tv 1 0)) 4)])), (h, .inr (4, [.ref hs, .ref ht, .ref wq, .int (nI d), v4, v5, v6, v7, v8, v9, .int (nI ck)])), (pa, .inl (E 1, 4, .inr (.inr (.inl (epF b w nw ck x))))), (aa, .inl (E 1, 4, .inr (.inr (.inl (amP d (aiF f (epF b w nw ck x) (g_tv 1 0)) g 4))))), (hs, .inl (E 1, 4, .inr (.inr (.inl f)))), (ht, .inl (E 0, 4, .inl t))]) (bytes := cX1_weigh) (maxL := 6) (ret := none) hc hw hl.1 (m_X1_weigh (l := l) (D := D) (E := E) (T := T) pl h u0 u1 (.int (nI nw)) (.ref xa) (.ref ba) u7 u8 u9 (.ref wq) v4 v5 v6 v7 v8 v9 (.int (nI ck)) pa aa hs ht d (epF b w nw ck x) g f t (g_tv 1 0) (by first | assumption | omega | decide) (by first | assumption | omega | decide) (fun j _ => g_mgpu b _ _ _ j)) gX1_steer_X1_weigh rfl (by decide +kernel) (by rw [hR]; exact ⟨Nat.le_of_ble_eq_true rfl, Nat.le_of_ble_eq_true rfl⟩) [0, 1, 4, 5, 6, 7] 0 1 rfl rfl (by decide) rfl [pl, h, pa, aa, hs, ht] rfl rfl rfl rfl (Nat.le_of_ble_eq_true rfl) dX1_steer_14 ⟨Nat.zero_le _, Nat.zero_le _⟩ (fun H locs hw => ?_)
  have hw : g_W D A s [(pl, .inr (1, [u0, u1, .int (nI nw), .ref xa, .ref ba, .ref pa, .ref aa, u7, .int (neF d (FP.i2f (t 1)) (aiF f (epF b w nw ck x) (g_tv 1 0)) 4), .float (heF d (aiF f (epF b w nw ck x) (g_tv 1 0)) 4)])), (h, .inr (4, [.ref hs, .ref ht, .ref wq, .int (nI d), v4, v5, v6, v7, v8, v9, .int (nI ck)])), (xa, .inl (E 0, 3, .inl x)), (ba, .inl (E 0, 12, .inl b)), (pa, .inl (E 1, 4, .inr (.inr (.inl (epF b w nw ck x))))), (aa, .inl (E 1, 4, .inr (.inr (.inl (amP d (aiF f (epF b w nw ck x) (g_tv 1 0)) g 4))))), (hs, .inl (E 1, 4, .inr (.inr (.inl f)))), (ht, .inl (E 0, 4, .inl t)), (wq, .inl (E 0, 18, .inl w))] H locs := hw
  refine lv_aload_n hx hb dX1_steer_17 rfl (lv_at hl 2 rfl) ?_
  refine g_getN (TT := TX4) hc hw inX1_steer_X4 1 3 24 rfl rfl (by decide) rfl rfl dX1_steer_18 ?_
  refine lv_if_ne (tgt := 114) hx hb dX1_steer_21 (by decide) (fun c_21 => ?_) (fun c_21 => ?_)
  · skip
    have hd0 : ¬ d = 0 := g_ne0 hd c_21
    refine lv_aload_n hx hb dX1_steer_114 rfl (lv_at hl 1 rfl) ?_
    refine lv_iload_n hx hb dX1_steer_115 rfl (lv_at hl 0 rfl) ?_
    refine g_put (TT := TX1) hc hw inX1_steer_X1 tyX1 tyX1_ok nmX1 0 7 3 rfl rfl (by decide) rfl rfl rfl rfl (Nat.le_of_ble_eq_true rfl) dX1_steer_116 (fun H locs hw => ?_)
    have hw : g_W D A s [(pl, .inr (1, [u0, u1, .int (nI nw), .ref xa, .ref ba, .ref pa, .ref aa, .int (g_tv 1 0), .int (neF d (FP.i2f (t 1)) (aiF f (epF b w nw ck x) (g_tv 1 0)) 4), .float (heF d (aiF f (epF b w nw ck x) (g_tv 1 0)) 4)])), (h, .inr (4, [.ref hs, .ref ht, .ref wq, .int (nI d), v4, v5, v6, v7, v8, v9, .int (nI ck)])), (xa, .inl (E 0, 3, .inl x)), (ba, .inl (E 0, 12, .inl b)), (pa, .inl (E 1, 4, .inr (.inr (.inl (epF b w nw ck x))))), (aa, .inl (E 1, 4, .inr (.inr (.inl (amP d (aiF f (epF b w nw ck x) (g_tv 1 0)) g 4))))), (hs, .inl (E 1, 4, .inr (.inr (.inl f)))), (ht, .inl (E 0, 4, .inl t)), (wq, .inl (E 0, 18, .inl w))] H locs := hw
    exact g_vret hQ hc hw hr rfl (by rw [show stF d f (epF b w nw ck x) (FP.i2f (t 1)) = g_tv 1 0 from if_neg hd0]) dX1_steer_119
  · skip
    have hd0 : d = 0 := g_eq0 hd c_21
    refine lv_aload_n hx hb dX1_steer_24 rfl (lv_at hl 1 rfl) ?_
    refine g_get (TT := TX1) hc hw inX1_steer_X1 0 8 1 rfl rfl (by decide) rfl rfl dX1_steer_25 ?_
    refine lv_istore_n (lv' := [(3, .int (neF d (FP.i2f (t 1)) (aiF f (epF b w nw ck x) (g_tv 1 0)) 4)), (2, .int (g_tv 1 0)), (0, .ref pl), (1, .ref h)]) hx hb dX1_steer_28 rfl hl (by decide) rfl (fun ls hl => ?_)
    refine lv_aload_n hx hb dX1_steer_29 rfl (lv_at hl 2 rfl) ?_
    refine g_get (TT := TX1) hc hw inX1_steer_X1 0 9 2 rfl rfl (by decide) rfl rfl dX1_steer_30 ?_
    refine lv_fstore (lv' := [(4, .float (heF d (aiF f (epF b w nw ck x) (g_tv 1 0)) 4)), (3, .int (neF d (FP.i2f (t 1)) (aiF f (epF b w nw ck x) (g_tv 1 0)) 4)), (2, .int (g_tv 1 0)), (0, .ref pl), (1, .ref h)]) hx hb dX1_steer_33 hl (by decide) rfl (fun ls hl => ?_)
    refine lv_iconst (v := 1) hx hb dX1_steer_35 (by decide) ?_
    refine lv_istore (lv' := [(5, .int 1), (4, .float (heF d (aiF f (epF b w nw ck x) (g_tv 1 0)) 4)), (3, .int (neF d (FP.i2f (t 1)) (aiF f (epF b w nw ck x) (g_tv 1 0)) 4)), (2, .int (g_tv 1 0)), (0, .ref pl), (1, .ref h)]) hx hb dX1_steer_36 hl (by decide) rfl (fun ls hl => ?_)
    have J38 : ∀ (k9 : Nat) (i : Nat), i + k9 = 8 → ∀ (H : Heap) (locs : List Loc) (ls : Array Slot), g_W D A s [(pl, .inr (1, [u0, u1, .int (nI nw), .ref xa, .ref ba, .ref pa, .ref aa, u7, .int (neF d (FP.i2f (t 1)) (aiF f (epF b w nw ck x) (g_tv 1 i)) 4), .float (heF d (aiF f (epF b w nw ck x) (g_tv 1 i)) 4)])), (h, .inr (4, [.ref hs, .ref ht, .ref wq, .int (nI d), v4, v5, v6, v7, v8, v9, .int (nI ck)])), (xa, .inl (E 0, 3, .inl x)), (ba, .inl (E 0, 12, .inl b)), (pa, .inl (E 1, 4, .inr (.inr (.inl (epF b w nw ck x))))), (aa, .inl (E 1, 4, .inr (.inr (.inl (amP d (aiF f (epF b w nw ck x) (g_tv 1 i)) g 4))))), (hs, .inl (E 1, 4, .inr (.inr (.inl f)))), (ht, .inl (E 0, 4, .inl t)), (wq, .inl (E 0, 18, .inl w))] H locs → lv_has ls 6 [(0, .ref pl), (1, .ref h), (2, .int (bs i)), (3, .int (neF d (FP.i2f (t 1)) (aiF f (epF b w nw ck x) (bs i)) 4)), (4, .float (heF d (aiF f (epF b w nw ck x) (bs i)) 4)), (5, .int (nI (i + 1)))] → W p l e R s m args below meth c H locs 0 0 Q (F0 m 38 ls []) := by
      intro k9
      induction k9 with
      | zero =>
        intro i h9   H locs ls hw hl
        have h9 : i = 8 := h9
        subst h9
        refine lv_iload hx hb dX1_steer_38 (lv_at hl 5 rfl) ?_
        refine g_gstN hc hw 1 61 (by decide) rfl dX1_steer_40 ?_
        refine g_tlen hc hw 1 (by decide) (v := 9) rfl dX1_steer_43 ?_
        refine lv_icmp_ge (tgt := 108) hx hb dX1_steer_44 (by decide) (fun c_44 => ?_) (fun c_44 => absurd (by decide) c_44)
        refine lv_aload_n hx hb dX1_steer_108 rfl (lv_at hl 0 rfl) ?_
        refine lv_aload_n hx hb dX1_steer_109 rfl (lv_at hl 1 rfl) ?_
        refine lv_iload_n hx hb dX1_steer_110 rfl (lv_at hl 2 rfl) ?_
        refine g_cV (As := [.ref h, .int (bs 8)]) (n := 2) (rest := []) (wc := [(pl, .inr (1, [u0, u1, .int (nI nw), .ref xa, .ref ba, .ref pa, .ref aa, u7, .int (neF d (FP.i2f (t 1)) (aiF f (epF b w nw ck x) (g_tv 1 8)) 4), .float (heF d (aiF f (epF b w nw ck x) (g_tv 1 8)) 4)])), (h, .inr (4, [.ref hs, .ref ht, .ref wq, .int (nI d), v4, v5, v6, v7, v8, v9, .int (nI ck)])), (pa, .inl (E 1, 4, .inr (.inr (.inl (epF b w nw ck x))))), (aa, .inl (E 1, 4, .inr (.inr (.inl (amP d (aiF f (epF b w nw ck x) (g_tv 1 8)) g 4))))), (hs, .inl (E 1, 4, .inr (.inr (.inl f)))), (ht, .inl (E 0, 4, .inl t))]) (w1 := [(pl, .inr (1, [u0, u1, .int (nI nw), .ref xa, .ref ba, .ref pa, .ref aa, u7, .int (neF d (FP.i2f (t 1)) (aiF f (epF b w nw ck x) (bs 8)) 4), .float (heF d (aiF f (epF b w nw ck x) (bs 8)) 4)])), (h, .inr (4, [.ref hs, .ref ht, .ref wq, .int (nI d), v4, v5, v6, v7, v8, v9, .int (nI ck)])), (pa, .inl (E 1, 4, .inr (.inr (.inl (epF b w nw ck x))))), (aa, .inl (E 1, 4, .inr (.inr (.inl (amP d (aiF f (epF b w nw ck x) (bs 8)) (amP d (aiF f (epF b w nw ck x) (g_tv 1 8)) g 4) 4))))), (hs, .inl (E 1, 4, .inr (.inr (.inl f)))), (ht, .inl (E 0, 4, .inl t))]) (bytes := cX1_weigh) (maxL := 6) (ret := none) hc hw hl.1 (m_X1_weigh (l := l) (D := D) (E := E) (T := T) pl h u0 u1 (.int (nI nw)) (.ref xa) (.ref ba) u7 (.int (neF d (FP.i2f (t 1)) (aiF f (epF b w nw ck x) (g_tv 1 8)) 4)) (.float (heF d (aiF f (epF b w nw ck x) (g_tv 1 8)) 4)) (.ref wq) v4 v5 v6 v7 v8 v9 (.int (nI ck)) pa aa hs ht d (epF b w nw ck x) (amP d (aiF f (epF b w nw ck x) (g_tv 1 8)) g 4) f t (bs 8) (by first | assumption | omega | decide) (by first | assumption | omega | decide) (fun j _ => g_mgpu b _ _ _ j)) gX1_steer_X1_weigh rfl (by decide +kernel) (by rw [hR]; exact ⟨Nat.le_of_ble_eq_true rfl, Nat.le_of_ble_eq_true rfl⟩) [0, 1, 4, 5, 6, 7] 0 1 rfl rfl (by decide) rfl [pl, h, pa, aa, hs, ht] rfl rfl rfl rfl (Nat.le_of_ble_eq_true rfl) dX1_steer_111 ⟨Nat.zero_le _, Nat.zero_le _⟩ (fun H locs hw => ?_)
        have hw : g_W D A s [(pl, .inr (1, [u0, u1, .int (nI nw), .ref xa, .ref ba, .ref pa, .ref aa, u7, .int (neF d (FP.i2f (t 1)) (aiF f (epF b w nw ck x) (bs 8)) 4), .float (heF d (aiF f (epF b w nw ck x) (bs 8)) 4)])), (h, .inr (4, [.ref hs, .ref ht, .ref wq, .int (nI d), v4, v5, v6, v7, v8, v9, .int (nI ck)])), (xa, .inl (E 0, 3, .inl x)), (ba, .inl (E 0, 12, .inl b)), (pa, .inl (E 1, 4, .inr (.inr (.inl (epF b w nw ck x))))), (aa, .inl (E 1, 4, .inr (.inr (.inl (amP d (aiF f (epF b w nw ck x) (bs 8)) (amP d (aiF f (epF b w nw ck x) (g_tv 1 8)) g 4) 4))))), (hs, .inl (E 1, 4, .inr (.inr (.inl f)))), (ht, .inl (E 0, 4, .inl t)), (wq, .inl (E 0, 18, .inl w))] H locs := hw
        rw [am_am d _ _ g] at hw
        have hw : g_W D A s [(pl, .inr (1, [u0, u1, .int (nI nw), .ref xa, .ref ba, .ref pa, .ref aa, u7, .int (neF d (FP.i2f (t 1)) (aiF f (epF b w nw ck x) (bs 8)) 4), .float (heF d (aiF f (epF b w nw ck x) (bs 8)) 4)])), (h, .inr (4, [.ref hs, .ref ht, .ref wq, .int (nI d), v4, v5, v6, v7, v8, v9, .int (nI ck)])), (xa, .inl (E 0, 3, .inl x)), (ba, .inl (E 0, 12, .inl b)), (pa, .inl (E 1, 4, .inr (.inr (.inl (epF b w nw ck x))))), (aa, .inl (E 1, 4, .inr (.inr (.inl (amP d (aiF f (epF b w nw ck x) (bs 8)) g 4))))), (hs, .inl (E 1, 4, .inr (.inr (.inl f)))), (ht, .inl (E 0, 4, .inl t)), (wq, .inl (E 0, 18, .inl w))] H locs := hw
        refine lv_aload_n hx hb dX1_steer_114 rfl (lv_at hl 0 rfl) ?_
        refine lv_iload_n hx hb dX1_steer_115 rfl (lv_at hl 2 rfl) ?_
        refine g_put (TT := TX1) hc hw inX1_steer_X1 tyX1 tyX1_ok nmX1 0 7 3 rfl rfl (by decide) rfl rfl rfl rfl (Nat.le_of_ble_eq_true rfl) dX1_steer_116 (fun H locs hw => ?_)
        have hw : g_W D A s [(pl, .inr (1, [u0, u1, .int (nI nw), .ref xa, .ref ba, .ref pa, .ref aa, .int (bs 8), .int (neF d (FP.i2f (t 1)) (aiF f (epF b w nw ck x) (bs 8)) 4), .float (heF d (aiF f (epF b w nw ck x) (bs 8)) 4)])), (h, .inr (4, [.ref hs, .ref ht, .ref wq, .int (nI d), v4, v5, v6, v7, v8, v9, .int (nI ck)])), (xa, .inl (E 0, 3, .inl x)), (ba, .inl (E 0, 12, .inl b)), (pa, .inl (E 1, 4, .inr (.inr (.inl (epF b w nw ck x))))), (aa, .inl (E 1, 4, .inr (.inr (.inl (amP d (aiF f (epF b w nw ck x) (bs 8)) g 4))))), (hs, .inl (E 1, 4, .inr (.inr (.inl f)))), (ht, .inl (E 0, 4, .inl t)), (wq, .inl (E 0, 18, .inl w))] H locs := hw
        exact g_vret hQ hc hw hr rfl (by rw [show stF d f (epF b w nw ck x) (FP.i2f (t 1)) = bs 8 from (by rw [hbs]; exact if_pos hd0)]) dX1_steer_119
      | succ k9 ih =>
        intro i h9   H locs ls hw hl
        have h9b : i < 8 := by omega
        refine lv_iload hx hb dX1_steer_38 (lv_at hl 5 rfl) ?_
        refine g_gstN hc hw 1 61 (by decide) rfl dX1_steer_40 ?_
        refine g_tlen hc hw 1 (by decide) (v := 9) rfl dX1_steer_43 ?_
        refine lv_icmp_ge (tgt := 108) hx hb dX1_steer_44 (by decide) (fun c_44 => absurd c_44 (nI_ge (show i + 1 < 9 by omega) (by decide))) (fun c_44 => ?_)
        refine lv_aload_n hx hb dX1_steer_47 rfl (lv_at hl 0 rfl) ?_
        refine lv_aload_n hx hb dX1_steer_48 rfl (lv_at hl 1 rfl) ?_
        refine g_gstN hc hw 1 61 (by decide) rfl dX1_steer_49 ?_
        refine lv_iload hx hb dX1_steer_52 (lv_at hl 5 rfl) ?_
        refine g_tld hc hw 1 (i + 1) (by decide) rfl (by first | decide | (show _ < 9; omega)) dX1_steer_54 ?_
        refine g_cV (As := [.ref h, .int (g_tv 1 (i + 1))]) (n := 2) (rest := []) (wc := [(pl, .inr (1, [u0, u1, .int (nI nw), .ref xa, .ref ba, .ref pa, .ref aa, u7, .int (neF d (FP.i2f (t 1)) (aiF f (epF b w nw ck x) (g_tv 1 i)) 4), .float (heF d (aiF f (epF b w nw ck x) (g_tv 1 i)) 4)])), (h, .inr (4, [.ref hs, .ref ht, .ref wq, .int (nI d), v4, v5, v6, v7, v8, v9, .int (nI ck)])), (pa, .inl (E 1, 4, .inr (.inr (.inl (epF b w nw ck x))))), (aa, .inl (E 1, 4, .inr (.inr (.inl (amP d (aiF f (epF b w nw ck x) (g_tv 1 i)) g 4))))), (hs, .inl (E 1, 4, .inr (.inr (.inl f)))), (ht, .inl (E 0, 4, .inl t))]) (w1 := [(pl, .inr (1, [u0, u1, .int (nI nw), .ref xa, .ref ba, .ref pa, .ref aa, u7, .int (neF d (FP.i2f (t 1)) (aiF f (epF b w nw ck x) (g_tv 1 (i + 1))) 4), .float (heF d (aiF f (epF b w nw ck x) (g_tv 1 (i + 1))) 4)])), (h, .inr (4, [.ref hs, .ref ht, .ref wq, .int (nI d), v4, v5, v6, v7, v8, v9, .int (nI ck)])), (pa, .inl (E 1, 4, .inr (.inr (.inl (epF b w nw ck x))))), (aa, .inl (E 1, 4, .inr (.inr (.inl (amP d (aiF f (epF b w nw ck x) (g_tv 1 (i + 1))) (amP d (aiF f (epF b w nw ck x) (g_tv 1 i)) g 4) 4))))), (hs, .inl (E 1, 4, .inr (.inr (.inl f)))), (ht, .inl (E 0, 4, .inl t))]) (bytes := cX1_weigh) (maxL := 6) (ret := none) hc hw hl.1 (m_X1_weigh (l := l) (D := D) (E := E) (T := T) pl h u0 u1 (.int (nI nw)) (.ref xa) (.ref ba) u7 (.int (neF d (FP.i2f (t 1)) (aiF f (epF b w nw ck x) (g_tv 1 i)) 4)) (.float (heF d (aiF f (epF b w nw ck x) (g_tv 1 i)) 4)) (.ref wq) v4 v5 v6 v7 v8 v9 (.int (nI ck)) pa aa hs ht d (epF b w nw ck x) (amP d (aiF f (epF b w nw ck x) (g_tv 1 i)) g 4) f t (g_tv 1 (i + 1)) (by first | assumption | omega | decide) (by first | assumption | omega | decide) (fun j _ => g_mgpu b _ _ _ j)) gX1_steer_X1_weigh rfl (by decide +kernel) (by rw [hR]; exact ⟨Nat.le_of_ble_eq_true rfl, Nat.le_of_ble_eq_true rfl⟩) [0, 1, 4, 5, 6, 7] 0 1 rfl rfl (by decide) rfl [pl, h, pa, aa, hs, ht] rfl rfl rfl rfl (Nat.le_of_ble_eq_true rfl) dX1_steer_55 ⟨Nat.zero_le _, Nat.zero_le _⟩ (fun H locs hw => ?_)
        have hw : g_W D A s [(pl, .inr (1, [u0, u1, .int (nI nw), .ref xa, .ref ba, .ref pa, .ref aa, u7, .int (neF d (FP.i2f (t 1)) (aiF f (epF b w nw ck x) (g_tv 1 (i + 1))) 4), .float (heF d (aiF f (epF b w nw ck x) (g_tv 1 (i + 1))) 4)])), (h, .inr (4, [.ref hs, .ref ht, .ref wq, .int (nI d), v4, v5, v6, v7, v8, v9, .int (nI ck)])), (xa, .inl (E 0, 3, .inl x)), (ba, .inl (E 0, 12, .inl b)), (pa, .inl (E 1, 4, .inr (.inr (.inl (epF b w nw ck x))))), (aa, .inl (E 1, 4, .inr (.inr (.inl (amP d (aiF f (epF b w nw ck x) (g_tv 1 (i + 1))) (amP d (aiF f (epF b w nw ck x) (g_tv 1 i)) g 4) 4))))), (hs, .inl (E 1, 4, .inr (.inr (.inl f)))), (ht, .inl (E 0, 4, .inl t)), (wq, .inl (E 0, 18, .inl w))] H locs := hw
        refine lv_aload_n hx hb dX1_steer_58 rfl (lv_at hl 0 rfl) ?_
        refine g_get (TT := TX1) hc hw inX1_steer_X1 0 8 1 rfl rfl (by decide) rfl rfl dX1_steer_59 ?_
        refine lv_iload_n hx hb dX1_steer_62 rfl (lv_at hl 3 rfl) ?_
        refine lv_icmp_lt (tgt := 84) hx hb dX1_steer_63 (by decide) (fun c_63 => ?_) (fun c_63 => ?_)
        · skip
          refine g_gstN hc hw 1 61 (by decide) rfl dX1_steer_84 ?_
          refine lv_iload hx hb dX1_steer_87 (lv_at hl 5 rfl) ?_
          refine g_tld hc hw 1 (i + 1) (by decide) rfl (by first | decide | (show _ < 9; omega)) dX1_steer_89 ?_
          refine lv_istore_n (lv' := [(2, .int (g_tv 1 (i + 1))), (0, .ref pl), (1, .ref h), (3, .int (neF d (FP.i2f (t 1)) (aiF f (epF b w nw ck x) (bs i)) 4)), (4, .float (heF d (aiF f (epF b w nw ck x) (bs i)) 4)), (5, .int (nI (i + 1)))]) hx hb dX1_steer_90 rfl hl (by decide) rfl (fun ls hl => ?_)
          refine lv_aload_n hx hb dX1_steer_91 rfl (lv_at hl 1 rfl) ?_
          refine g_get (TT := TX1) hc hw inX1_steer_X1 0 8 1 rfl rfl (by decide) rfl rfl dX1_steer_92 ?_
          refine lv_istore_n (lv' := [(3, .int (neF d (FP.i2f (t 1)) (aiF f (epF b w nw ck x) (g_tv 1 (i + 1))) 4)), (2, .int (g_tv 1 (i + 1))), (0, .ref pl), (1, .ref h), (4, .float (heF d (aiF f (epF b w nw ck x) (bs i)) 4)), (5, .int (nI (i + 1)))]) hx hb dX1_steer_95 rfl hl (by decide) rfl (fun ls hl => ?_)
          refine lv_aload_n hx hb dX1_steer_96 rfl (lv_at hl 2 rfl) ?_
          refine g_get (TT := TX1) hc hw inX1_steer_X1 0 9 2 rfl rfl (by decide) rfl rfl dX1_steer_97 ?_
          refine lv_fstore (lv' := [(4, .float (heF d (aiF f (epF b w nw ck x) (g_tv 1 (i + 1))) 4)), (3, .int (neF d (FP.i2f (t 1)) (aiF f (epF b w nw ck x) (g_tv 1 (i + 1))) 4)), (2, .int (g_tv 1 (i + 1))), (0, .ref pl), (1, .ref h), (5, .int (nI (i + 1)))]) hx hb dX1_steer_100 hl (by decide) rfl (fun ls hl => ?_)
          refine lv_iinc (v := nI ((i + 1) + 1)) (lv' := [(5, .int (nI ((i + 1) + 1))), (4, .float (heF d (aiF f (epF b w nw ck x) (g_tv 1 (i + 1))) 4)), (3, .int (neF d (FP.i2f (t 1)) (aiF f (epF b w nw ck x) (g_tv 1 (i + 1))) 4)), (2, .int (g_tv 1 (i + 1))), (0, .ref pl), (1, .ref h)]) hx hb dX1_steer_102 hl (k := 5) rfl (n_inc1 rfl) (by decide) rfl (fun ls hl => ?_)
          refine lv_goto (tgt := 38) hx hb dX1_steer_105 (by decide) ?_
          have hw : g_W D A s [(pl, .inr (1, [u0, u1, .int (nI nw), .ref xa, .ref ba, .ref pa, .ref aa, u7, .int (neF d (FP.i2f (t 1)) (aiF f (epF b w nw ck x) (g_tv 1 (i + 1))) 4), .float (heF d (aiF f (epF b w nw ck x) (g_tv 1 (i + 1))) 4)])), (h, .inr (4, [.ref hs, .ref ht, .ref wq, .int (nI d), v4, v5, v6, v7, v8, v9, .int (nI ck)])), (xa, .inl (E 0, 3, .inl x)), (ba, .inl (E 0, 12, .inl b)), (pa, .inl (E 1, 4, .inr (.inr (.inl (epF b w nw ck x))))), (aa, .inl (E 1, 4, .inr (.inr (.inl (amP d (aiF f (epF b w nw ck x) (g_tv 1 (i + 1))) g 4))))), (hs, .inl (E 1, 4, .inr (.inr (.inl f)))), (ht, .inl (E 0, 4, .inl t)), (wq, .inl (E 0, 18, .inl w))] H locs := by
            have e5 : (amP d (aiF f (epF b w nw ck x) (g_tv 1 (i + 1))) (amP d (aiF f (epF b w nw ck x) (g_tv 1 i)) g 4) 4) = (amP d (aiF f (epF b w nw ck x) (g_tv 1 (i + 1))) g 4) := by exact am_am d _ _ g
            rw [e5] at hw
            exact hw
          have hl := lv_conv hl 3 rfl (v' := (.int (bs (i + 1)))) (by exact congrArg Value.int (hbT i (Or.inl c_63)))
          have hl : lv_has ls 6 [(5, .int (nI ((i + 1) + 1))), (4, .float (heF d (aiF f (epF b w nw ck x) (g_tv 1 (i + 1))) 4)), (3, .int (neF d (FP.i2f (t 1)) (aiF f (epF b w nw ck x) (g_tv 1 (i + 1))) 4)), (2, .int (bs (i + 1))), (0, .ref pl), (1, .ref h)] := hl
          have hl := lv_conv hl 2 rfl (v' := (.int (neF d (FP.i2f (t 1)) (aiF f (epF b w nw ck x) (bs (i + 1))) 4))) (by rw [hbT i (Or.inl c_63)])
          have hl : lv_has ls 6 [(5, .int (nI ((i + 1) + 1))), (4, .float (heF d (aiF f (epF b w nw ck x) (g_tv 1 (i + 1))) 4)), (3, .int (neF d (FP.i2f (t 1)) (aiF f (epF b w nw ck x) (bs (i + 1))) 4)), (2, .int (bs (i + 1))), (0, .ref pl), (1, .ref h)] := hl
          have hl := lv_conv hl 1 rfl (v' := (.float (heF d (aiF f (epF b w nw ck x) (bs (i + 1))) 4))) (by rw [hbT i (Or.inl c_63)])
          have hl : lv_has ls 6 [(5, .int (nI ((i + 1) + 1))), (4, .float (heF d (aiF f (epF b w nw ck x) (bs (i + 1))) 4)), (3, .int (neF d (FP.i2f (t 1)) (aiF f (epF b w nw ck x) (bs (i + 1))) 4)), (2, .int (bs (i + 1))), (0, .ref pl), (1, .ref h)] := hl
          exact ih (i + 1) (by omega)   _ _ _ hw (lv_sub hl [4, 5, 3, 2, 1, 0] rfl)
        · skip
          refine lv_aload_n hx hb dX1_steer_66 rfl (lv_at hl 0 rfl) ?_
          refine g_get (TT := TX1) hc hw inX1_steer_X1 0 8 1 rfl rfl (by decide) rfl rfl dX1_steer_67 ?_
          refine lv_iload_n hx hb dX1_steer_70 rfl (lv_at hl 3 rfl) ?_
          refine lv_icmp_ne (tgt := 102) hx hb dX1_steer_71 (by decide) (fun c_71 => ?_) (fun c_71 => ?_)
          · skip
            refine lv_iinc (v := nI ((i + 1) + 1)) (lv' := [(5, .int (nI ((i + 1) + 1))), (0, .ref pl), (1, .ref h), (2, .int (bs i)), (3, .int (neF d (FP.i2f (t 1)) (aiF f (epF b w nw ck x) (bs i)) 4)), (4, .float (heF d (aiF f (epF b w nw ck x) (bs i)) 4))]) hx hb dX1_steer_102 hl (k := 5) rfl (n_inc1 rfl) (by decide) rfl (fun ls hl => ?_)
            refine lv_goto (tgt := 38) hx hb dX1_steer_105 (by decide) ?_
            have hw : g_W D A s [(pl, .inr (1, [u0, u1, .int (nI nw), .ref xa, .ref ba, .ref pa, .ref aa, u7, .int (neF d (FP.i2f (t 1)) (aiF f (epF b w nw ck x) (g_tv 1 (i + 1))) 4), .float (heF d (aiF f (epF b w nw ck x) (g_tv 1 (i + 1))) 4)])), (h, .inr (4, [.ref hs, .ref ht, .ref wq, .int (nI d), v4, v5, v6, v7, v8, v9, .int (nI ck)])), (xa, .inl (E 0, 3, .inl x)), (ba, .inl (E 0, 12, .inl b)), (pa, .inl (E 1, 4, .inr (.inr (.inl (epF b w nw ck x))))), (aa, .inl (E 1, 4, .inr (.inr (.inl (amP d (aiF f (epF b w nw ck x) (g_tv 1 (i + 1))) g 4))))), (hs, .inl (E 1, 4, .inr (.inr (.inl f)))), (ht, .inl (E 0, 4, .inl t)), (wq, .inl (E 0, 18, .inl w))] H locs := by
              have e5 : (amP d (aiF f (epF b w nw ck x) (g_tv 1 (i + 1))) (amP d (aiF f (epF b w nw ck x) (g_tv 1 i)) g 4) 4) = (amP d (aiF f (epF b w nw ck x) (g_tv 1 (i + 1))) g 4) := by exact am_am d _ _ g
              rw [e5] at hw
              exact hw
            have hl := lv_conv hl 3 rfl (v' := (.int (bs (i + 1)))) (by exact congrArg Value.int (hbN i (fun q => q.elim c_63 (fun r => c_71 r.1))))
            have hl : lv_has ls 6 [(5, .int (nI ((i + 1) + 1))), (0, .ref pl), (1, .ref h), (2, .int (bs (i + 1))), (3, .int (neF d (FP.i2f (t 1)) (aiF f (epF b w nw ck x) (bs i)) 4)), (4, .float (heF d (aiF f (epF b w nw ck x) (bs i)) 4))] := hl
            have hl := lv_conv hl 4 rfl (v' := (.int (neF d (FP.i2f (t 1)) (aiF f (epF b w nw ck x) (bs (i + 1))) 4))) (by rw [hbN i (fun q => q.elim c_63 (fun r => c_71 r.1))])
            have hl : lv_has ls 6 [(5, .int (nI ((i + 1) + 1))), (0, .ref pl), (1, .ref h), (2, .int (bs (i + 1))), (3, .int (neF d (FP.i2f (t 1)) (aiF f (epF b w nw ck x) (bs (i + 1))) 4)), (4, .float (heF d (aiF f (epF b w nw ck x) (bs i)) 4))] := hl
            have hl := lv_conv hl 5 rfl (v' := (.float (heF d (aiF f (epF b w nw ck x) (bs (i + 1))) 4))) (by rw [hbN i (fun q => q.elim c_63 (fun r => c_71 r.1))])
            have hl : lv_has ls 6 [(5, .int (nI ((i + 1) + 1))), (0, .ref pl), (1, .ref h), (2, .int (bs (i + 1))), (3, .int (neF d (FP.i2f (t 1)) (aiF f (epF b w nw ck x) (bs (i + 1))) 4)), (4, .float (heF d (aiF f (epF b w nw ck x) (bs (i + 1))) 4))] := hl
            exact ih (i + 1) (by omega)   _ _ _ hw (lv_sub hl [1, 2, 3, 4, 5, 0] rfl)
          · skip
            refine lv_aload_n hx hb dX1_steer_74 rfl (lv_at hl 0 rfl) ?_
            refine g_get (TT := TX1) hc hw inX1_steer_X1 0 9 2 rfl rfl (by decide) rfl rfl dX1_steer_75 ?_
            refine lv_fload hx hb dX1_steer_78 (lv_at hl 4 rfl) ?_
            refine lv_fcmp hx hb dX1_steer_80 ?_
            refine lv_if_ge (tgt := 102) hx hb dX1_steer_81 (by decide) (fun c_81 => ?_) (fun c_81 => ?_)
            · skip
              have k_81 := g_cgl c_81
              refine lv_iinc (v := nI ((i + 1) + 1)) (lv' := [(5, .int (nI ((i + 1) + 1))), (0, .ref pl), (1, .ref h), (2, .int (bs i)), (3, .int (neF d (FP.i2f (t 1)) (aiF f (epF b w nw ck x) (bs i)) 4)), (4, .float (heF d (aiF f (epF b w nw ck x) (bs i)) 4))]) hx hb dX1_steer_102 hl (k := 5) rfl (n_inc1 rfl) (by decide) rfl (fun ls hl => ?_)
              refine lv_goto (tgt := 38) hx hb dX1_steer_105 (by decide) ?_
              have hw : g_W D A s [(pl, .inr (1, [u0, u1, .int (nI nw), .ref xa, .ref ba, .ref pa, .ref aa, u7, .int (neF d (FP.i2f (t 1)) (aiF f (epF b w nw ck x) (g_tv 1 (i + 1))) 4), .float (heF d (aiF f (epF b w nw ck x) (g_tv 1 (i + 1))) 4)])), (h, .inr (4, [.ref hs, .ref ht, .ref wq, .int (nI d), v4, v5, v6, v7, v8, v9, .int (nI ck)])), (xa, .inl (E 0, 3, .inl x)), (ba, .inl (E 0, 12, .inl b)), (pa, .inl (E 1, 4, .inr (.inr (.inl (epF b w nw ck x))))), (aa, .inl (E 1, 4, .inr (.inr (.inl (amP d (aiF f (epF b w nw ck x) (g_tv 1 (i + 1))) g 4))))), (hs, .inl (E 1, 4, .inr (.inr (.inl f)))), (ht, .inl (E 0, 4, .inl t)), (wq, .inl (E 0, 18, .inl w))] H locs := by
                have e5 : (amP d (aiF f (epF b w nw ck x) (g_tv 1 (i + 1))) (amP d (aiF f (epF b w nw ck x) (g_tv 1 i)) g 4) 4) = (amP d (aiF f (epF b w nw ck x) (g_tv 1 (i + 1))) g 4) := by exact am_am d _ _ g
                rw [e5] at hw
                exact hw
              have hl := lv_conv hl 3 rfl (v' := (.int (bs (i + 1)))) (by exact congrArg Value.int (hbN i (fun q => q.elim c_63 (fun r => Bool.false_ne_true (k_81.symm.trans r.2)))))
              have hl : lv_has ls 6 [(5, .int (nI ((i + 1) + 1))), (0, .ref pl), (1, .ref h), (2, .int (bs (i + 1))), (3, .int (neF d (FP.i2f (t 1)) (aiF f (epF b w nw ck x) (bs i)) 4)), (4, .float (heF d (aiF f (epF b w nw ck x) (bs i)) 4))] := hl
              have hl := lv_conv hl 4 rfl (v' := (.int (neF d (FP.i2f (t 1)) (aiF f (epF b w nw ck x) (bs (i + 1))) 4))) (by rw [hbN i (fun q => q.elim c_63 (fun r => Bool.false_ne_true (k_81.symm.trans r.2)))])
              have hl : lv_has ls 6 [(5, .int (nI ((i + 1) + 1))), (0, .ref pl), (1, .ref h), (2, .int (bs (i + 1))), (3, .int (neF d (FP.i2f (t 1)) (aiF f (epF b w nw ck x) (bs (i + 1))) 4)), (4, .float (heF d (aiF f (epF b w nw ck x) (bs i)) 4))] := hl
              have hl := lv_conv hl 5 rfl (v' := (.float (heF d (aiF f (epF b w nw ck x) (bs (i + 1))) 4))) (by rw [hbN i (fun q => q.elim c_63 (fun r => Bool.false_ne_true (k_81.symm.trans r.2)))])
              have hl : lv_has ls 6 [(5, .int (nI ((i + 1) + 1))), (0, .ref pl), (1, .ref h), (2, .int (bs (i + 1))), (3, .int (neF d (FP.i2f (t 1)) (aiF f (epF b w nw ck x) (bs (i + 1))) 4)), (4, .float (heF d (aiF f (epF b w nw ck x) (bs (i + 1))) 4))] := hl
              exact ih (i + 1) (by omega)   _ _ _ hw (lv_sub hl [1, 2, 3, 4, 5, 0] rfl)
            · skip
              have k_81 := g_cgt c_81
              refine g_gstN hc hw 1 61 (by decide) rfl dX1_steer_84 ?_
              refine lv_iload hx hb dX1_steer_87 (lv_at hl 5 rfl) ?_
              refine g_tld hc hw 1 (i + 1) (by decide) rfl (by first | decide | (show _ < 9; omega)) dX1_steer_89 ?_
              refine lv_istore_n (lv' := [(2, .int (g_tv 1 (i + 1))), (0, .ref pl), (1, .ref h), (3, .int (neF d (FP.i2f (t 1)) (aiF f (epF b w nw ck x) (bs i)) 4)), (4, .float (heF d (aiF f (epF b w nw ck x) (bs i)) 4)), (5, .int (nI (i + 1)))]) hx hb dX1_steer_90 rfl hl (by decide) rfl (fun ls hl => ?_)
              refine lv_aload_n hx hb dX1_steer_91 rfl (lv_at hl 1 rfl) ?_
              refine g_get (TT := TX1) hc hw inX1_steer_X1 0 8 1 rfl rfl (by decide) rfl rfl dX1_steer_92 ?_
              refine lv_istore_n (lv' := [(3, .int (neF d (FP.i2f (t 1)) (aiF f (epF b w nw ck x) (g_tv 1 (i + 1))) 4)), (2, .int (g_tv 1 (i + 1))), (0, .ref pl), (1, .ref h), (4, .float (heF d (aiF f (epF b w nw ck x) (bs i)) 4)), (5, .int (nI (i + 1)))]) hx hb dX1_steer_95 rfl hl (by decide) rfl (fun ls hl => ?_)
              refine lv_aload_n hx hb dX1_steer_96 rfl (lv_at hl 2 rfl) ?_
              refine g_get (TT := TX1) hc hw inX1_steer_X1 0 9 2 rfl rfl (by decide) rfl rfl dX1_steer_97 ?_
              refine lv_fstore (lv' := [(4, .float (heF d (aiF f (epF b w nw ck x) (g_tv 1 (i + 1))) 4)), (3, .int (neF d (FP.i2f (t 1)) (aiF f (epF b w nw ck x) (g_tv 1 (i + 1))) 4)), (2, .int (g_tv 1 (i + 1))), (0, .ref pl), (1, .ref h), (5, .int (nI (i + 1)))]) hx hb dX1_steer_100 hl (by decide) rfl (fun ls hl => ?_)
              refine lv_iinc (v := nI ((i + 1) + 1)) (lv' := [(5, .int (nI ((i + 1) + 1))), (4, .float (heF d (aiF f (epF b w nw ck x) (g_tv 1 (i + 1))) 4)), (3, .int (neF d (FP.i2f (t 1)) (aiF f (epF b w nw ck x) (g_tv 1 (i + 1))) 4)), (2, .int (g_tv 1 (i + 1))), (0, .ref pl), (1, .ref h)]) hx hb dX1_steer_102 hl (k := 5) rfl (n_inc1 rfl) (by decide) rfl (fun ls hl => ?_)
              refine lv_goto (tgt := 38) hx hb dX1_steer_105 (by decide) ?_
              have hw : g_W D A s [(pl, .inr (1, [u0, u1, .int (nI nw), .ref xa, .ref ba, .ref pa, .ref aa, u7, .int (neF d (FP.i2f (t 1)) (aiF f (epF b w nw ck x) (g_tv 1 (i + 1))) 4), .float (heF d (aiF f (epF b w nw ck x) (g_tv 1 (i + 1))) 4)])), (h, .inr (4, [.ref hs, .ref ht, .ref wq, .int (nI d), v4, v5, v6, v7, v8, v9, .int (nI ck)])), (xa, .inl (E 0, 3, .inl x)), (ba, .inl (E 0, 12, .inl b)), (pa, .inl (E 1, 4, .inr (.inr (.inl (epF b w nw ck x))))), (aa, .inl (E 1, 4, .inr (.inr (.inl (amP d (aiF f (epF b w nw ck x) (g_tv 1 (i + 1))) g 4))))), (hs, .inl (E 1, 4, .inr (.inr (.inl f)))), (ht, .inl (E 0, 4, .inl t)), (wq, .inl (E 0, 18, .inl w))] H locs := by
                have e5 : (amP d (aiF f (epF b w nw ck x) (g_tv 1 (i + 1))) (amP d (aiF f (epF b w nw ck x) (g_tv 1 i)) g 4) 4) = (amP d (aiF f (epF b w nw ck x) (g_tv 1 (i + 1))) g 4) := by exact am_am d _ _ g
                rw [e5] at hw
                exact hw
              have hl := lv_conv hl 3 rfl (v' := (.int (bs (i + 1)))) (by exact congrArg Value.int (hbT i (Or.inr ⟨c_71, k_81⟩)))
              have hl : lv_has ls 6 [(5, .int (nI ((i + 1) + 1))), (4, .float (heF d (aiF f (epF b w nw ck x) (g_tv 1 (i + 1))) 4)), (3, .int (neF d (FP.i2f (t 1)) (aiF f (epF b w nw ck x) (g_tv 1 (i + 1))) 4)), (2, .int (bs (i + 1))), (0, .ref pl), (1, .ref h)] := hl
              have hl := lv_conv hl 2 rfl (v' := (.int (neF d (FP.i2f (t 1)) (aiF f (epF b w nw ck x) (bs (i + 1))) 4))) (by rw [hbT i (Or.inr ⟨c_71, k_81⟩)])
              have hl : lv_has ls 6 [(5, .int (nI ((i + 1) + 1))), (4, .float (heF d (aiF f (epF b w nw ck x) (g_tv 1 (i + 1))) 4)), (3, .int (neF d (FP.i2f (t 1)) (aiF f (epF b w nw ck x) (bs (i + 1))) 4)), (2, .int (bs (i + 1))), (0, .ref pl), (1, .ref h)] := hl
              have hl := lv_conv hl 1 rfl (v' := (.float (heF d (aiF f (epF b w nw ck x) (bs (i + 1))) 4))) (by rw [hbT i (Or.inr ⟨c_71, k_81⟩)])
              have hl : lv_has ls 6 [(5, .int (nI ((i + 1) + 1))), (4, .float (heF d (aiF f (epF b w nw ck x) (bs (i + 1))) 4)), (3, .int (neF d (FP.i2f (t 1)) (aiF f (epF b w nw ck x) (bs (i + 1))) 4)), (2, .int (bs (i + 1))), (0, .ref pl), (1, .ref h)] := hl
              exact ih (i + 1) (by omega)   _ _ _ hw (lv_sub hl [4, 5, 3, 2, 1, 0] rfl)
    have hl := lv_conv hl 3 rfl (v' := (.int (bs 0))) (by exact congrArg Value.int hb0)
    have hl : lv_has ls 6 [(5, .int 1), (4, .float (heF d (aiF f (epF b w nw ck x) (g_tv 1 0)) 4)), (3, .int (neF d (FP.i2f (t 1)) (aiF f (epF b w nw ck x) (g_tv 1 0)) 4)), (2, .int (bs 0)), (0, .ref pl), (1, .ref h)] := hl
    have hl := lv_conv hl 2 rfl (v' := (.int (neF d (FP.i2f (t 1)) (aiF f (epF b w nw ck x) (bs 0)) 4))) (by rw [hb0])
    have hl : lv_has ls 6 [(5, .int 1), (4, .float (heF d (aiF f (epF b w nw ck x) (g_tv 1 0)) 4)), (3, .int (neF d (FP.i2f (t 1)) (aiF f (epF b w nw ck x) (bs 0)) 4)), (2, .int (bs 0)), (0, .ref pl), (1, .ref h)] := hl
    have hl := lv_conv hl 1 rfl (v' := (.float (heF d (aiF f (epF b w nw ck x) (bs 0)) 4))) (by rw [hb0])
    have hl : lv_has ls 6 [(5, .int 1), (4, .float (heF d (aiF f (epF b w nw ck x) (bs 0)) 4)), (3, .int (neF d (FP.i2f (t 1)) (aiF f (epF b w nw ck x) (bs 0)) 4)), (2, .int (bs 0)), (0, .ref pl), (1, .ref h)] := hl
    exact J38 8 0 (by omega)   _ _ _ hw (lv_sub hl [4, 5, 3, 2, 1, 0] rfl)
end P13a
