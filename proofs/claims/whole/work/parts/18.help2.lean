section P18
theorem dX5_copyNow_0 : decode cX5_copyNow 0 = .ok (.aload_n 0, 1) := by decide +kernel
theorem dX5_copyNow_1 : decode cX5_copyNow 1 = .ok (.getfield 30, 3) := by decide +kernel
theorem dX5_copyNow_4 : decode cX5_copyNow 4 = .ok (.aload_n 0, 1) := by decide +kernel
theorem dX5_copyNow_5 : decode cX5_copyNow 5 = .ok (.getfield 26, 3) := by decide +kernel
theorem dX5_copyNow_8 : decode cX5_copyNow 8 = .ok (.invokevirtual 272, 3) := by decide +kernel
theorem dX5_copyNow_11 : decode cX5_copyNow 11 = .ok (.return_, 1) := by decide +kernel
set_option maxRecDepth 20000 in
theorem ggX5_copyNow_X4_copyFrom : GoodIn wsX5_copyNow wsX4_copyFrom := goodIn_r _ [6, 7, 8, 9, 10, 11, 12, 13, 14, 15, 16, 17, 18, 19, 20, 21, 33, 34, 35, 36, 37, 38, 39, 40, 41, 42, 43] rfl (by decide +kernel)
theorem inX5_copyNow_X5 : ∀ w ∈ u_ws RX5 TX5 11, w ∈ wsX5_copyNow := fun w h => List.mem_cons_of_mem _ (List.mem_append_left _ (List.mem_append_right _ h))
set_option maxRecDepth 100000 in
set_option maxHeartbeats 4000000 in
theorem m_X5_copyNow {l : Launch} {D : va_G} {E : Nat → ClassId} {T : Nat → Nat} (ob : Nat) (h : Nat) (hs : Nat) (ht : Nat) (hq : Nat) (kh : Nat) (ks : Nat) (kt : Nat) (kq : Nat) (z0 : Value) (z1 : Value) (z4 : Value) (z5 : Value) (z6 : Value) (z7 : Value) (z8 : Value) (z9 : Value) (z10 : Value) (S : TS) (U : TS)  : g_M l D E T yX5_copyNow wsX5_copyNow 2 39 [.ref ob] [(ob, .inr (5, [z0, z1, .ref h, .ref kh, z4, z5, z6, z7, z8, z9, z10])), (h, .inr (4, [.ref hs, .ref ht, .ref hq, .int (nI (sD S)), .int (sM S), .float (sP S), .int (sI S), .int (sC S), .int (sA S), .int (sR S), .int (nI (sK S))])), (hs, .inl (E 1, 4, .inr (.inr (.inl (sF S))))), (ht, .inl (E 0, 4, .inl (sT S))), (hq, .inl (E 0, 18, .inl (sW S))), (kh, .inr (4, [.ref ks, .ref kt, .ref kq, .int (nI (sD U)), .int (sM U), .float (sP U), .int (sI U), .int (sC U), .int (sA U), .int (sR U), .int (nI (sK U))])), (ks, .inl (E 1, 4, .inr (.inr (.inl (sF U))))), (kt, .inl (E 0, 4, .inl (sT U))), (kq, .inl (E 0, 18, .inl (sW U)))] [(ob, .inr (5, [z0, z1, .ref h, .ref kh, z4, z5, z6, z7, z8, z9, z10])), (h, .inr (4, [.ref hs, .ref ht, .ref hq, .int (nI (sD S)), .int (sM S), .float (sP S), .int (sI S), .int (sC S), .int (sA S), .int (sR S), .int (nI (sK S))])), (hs, .inl (E 1, 4, .inr (.inr (.inl (sF S))))), (ht, .inl (E 0, 4, .inl (sT S))), (hq, .inl (E 0, 18, .inl (sW S))), (kh, .inr (4, [.ref ks, .ref kt, .ref kq, .int (nI (sD S)), .int (sM S), .float (sP S), .int (sI S), .int (sC S), .int (sA S), .int (sR S), .int (nI (sK S))])), (ks, .inl (E 1, 4, .inr (.inr (.inl (sF S))))), (kt, .inl (E 0, 4, .inl (sT S))), (kq, .inl (E 0, 18, .inl (sW S)))] none := by
  refine g_M.of (cc := cX5_copyNow) (nL := 1) (ret := none) (own := RX5) (lv := [(0, .ref ob)]) (by decide) rfl rfl (Nat.le_of_ble_eq_true rfl) rfl ?_
  intro p e R s m args below meth c A Q H locs ls hR hQ hc hr hw hl
  have hx := hc.1
  have hb := hc.2.1
  have hts := hc.2.2.2.1
  have hown := hc.2.2.2.2.1
  refine lv_aload_n hx hb dX5_copyNow_0 rfl (lv_at hl 0 rfl) ?_
  refine g_get (TT := TX5) hc hw inX5_copyNow_X5 0 3 1 rfl rfl (by decide) rfl rfl dX5_copyNow_1 ?_
  refine lv_aload_n hx hb dX5_copyNow_4 rfl (lv_at hl 0 rfl) ?_
  refine g_get (TT := TX5) hc hw inX5_copyNow_X5 0 2 2 rfl rfl (by decide) rfl rfl dX5_copyNow_5 ?_
  refine g_cVN (As := [.ref h]) (n := 1) (rest := []) (wc := [(kh, .inr (4, [.ref ks, .ref kt, .ref kq, .int (nI (sD U)), .int (sM U), .float (sP U), .int (sI U), .int (sC U), .int (sA U), .int (sR U), .int (nI (sK U))])), (ks, .inl (E 1, 4, .inr (.inr (.inl (sF U))))), (kt, .inl (E 0, 4, .inl (sT U))), (kq, .inl (E 0, 18, .inl (sW U))), (h, .inr (4, [.ref hs, .ref ht, .ref hq, .int (nI (sD S)), .int (sM S), .float (sP S), .int (sI S), .int (sC S), .int (sA S), .int (sR S), .int (nI (sK S))])), (hs, .inl (E 1, 4, .inr (.inr (.inl (sF S))))), (ht, .inl (E 0, 4, .inl (sT S))), (hq, .inl (E 0, 18, .inl (sW S)))]) (w1 := [(kh, .inr (4, [.ref ks, .ref kt, .ref kq, .int (nI (sD S)), .int (sM S), .float (sP S), .int (sI S), .int (sC S), .int (sA S), .int (sR S), .int (nI (sK S))])), (ks, .inl (E 1, 4, .inr (.inr (.inl (sF S))))), (kt, .inl (E 0, 4, .inl (sT S))), (kq, .inl (E 0, 18, .inl (sW S))), (h, .inr (4, [.ref hs, .ref ht, .ref hq, .int (nI (sD S)), .int (sM S), .float (sP S), .int (sI S), .int (sC S), .int (sA S), .int (sR S), .int (nI (sK S))])), (hs, .inl (E 1, 4, .inr (.inr (.inl (sF S))))), (ht, .inl (E 0, 4, .inl (sT S))), (hq, .inl (E 0, 18, .inl (sW S)))]) (bytes := cX4_copyFrom) (maxL := 2) (ret := none) hc hw hl.1 (m_X4_copyFrom (l := l) (D := D) (E := E) (T := T) kh ks kt kq h hs ht hq (nI (sD S)) (sM S) (sP S) (sI S) (sC S) (sA S) (sR S) (nI (sK S)) (nI (sD U)) (sM U) (sP U) (sI U) (sC U) (sA U) (sR U) (nI (sK U)) (sF S) (sT S) (sW S) (sF U) (sT U) (sW U)) ggX5_copyNow_X4_copyFrom rfl 72 rfl 4 3 5 rfl rfl rfl (by decide +kernel) (by rw [hR]; exact ⟨Nat.le_of_ble_eq_true rfl, Nat.le_of_ble_eq_true rfl⟩) [5, 6, 7, 8, 1, 2, 3, 4] 5 4 rfl rfl (by decide) rfl [kh, ks, kt, kq, h, hs, ht, hq] rfl rfl rfl rfl (Nat.le_of_ble_eq_true rfl) dX5_copyNow_8 ⟨Nat.zero_le _, Nat.zero_le _⟩ (fun H locs hw => ?_)
  have hw : g_W D A s [(ob, .inr (5, [z0, z1, .ref h, .ref kh, z4, z5, z6, z7, z8, z9, z10])), (h, .inr (4, [.ref hs, .ref ht, .ref hq, .int (nI (sD S)), .int (sM S), .float (sP S), .int (sI S), .int (sC S), .int (sA S), .int (sR S), .int (nI (sK S))])), (hs, .inl (E 1, 4, .inr (.inr (.inl (sF S))))), (ht, .inl (E 0, 4, .inl (sT S))), (hq, .inl (E 0, 18, .inl (sW S))), (kh, .inr (4, [.ref ks, .ref kt, .ref kq, .int (nI (sD S)), .int (sM S), .float (sP S), .int (sI S), .int (sC S), .int (sA S), .int (sR S), .int (nI (sK S))])), (ks, .inl (E 1, 4, .inr (.inr (.inl (sF S))))), (kt, .inl (E 0, 4, .inl (sT S))), (kq, .inl (E 0, 18, .inl (sW S)))] H locs := hw
  exact g_vret hQ hc hw hr rfl rfl dX5_copyNow_11

theorem dX5_holdsWithGap_0 : decode cX5_holdsWithGap 0 = .ok (.iload_n 1, 1) := by decide +kernel
theorem dX5_holdsWithGap_1 : decode cX5_holdsWithGap 1 = .ok (.tableswitch 179 2 6 #[35, 69, 103, 124, 155], 35) := by decide +kernel
theorem dX5_holdsWithGap_36 : decode cX5_holdsWithGap 36 = .ok (.iload_n 3, 1) := by decide +kernel
theorem dX5_holdsWithGap_37 : decode cX5_holdsWithGap 37 = .ok (.ifCond .ne 21, 3) := by decide +kernel
theorem dX5_holdsWithGap_40 : decode cX5_holdsWithGap 40 = .ok (.iload_n 2, 1) := by decide +kernel
theorem dX5_holdsWithGap_41 : decode cX5_holdsWithGap 41 = .ok (.invokestatic 88, 3) := by decide +kernel
theorem dX5_holdsWithGap_44 : decode cX5_holdsWithGap 44 = .ok (.ifCond .ne 14, 3) := by decide +kernel
theorem dX5_holdsWithGap_47 : decode cX5_holdsWithGap 47 = .ok (.aload_n 0, 1) := by decide +kernel
theorem dX5_holdsWithGap_48 : decode cX5_holdsWithGap 48 = .ok (.getfield 30, 3) := by decide +kernel
theorem dX5_holdsWithGap_51 : decode cX5_holdsWithGap 51 = .ok (.iload_n 2, 1) := by decide +kernel
theorem dX5_holdsWithGap_52 : decode cX5_holdsWithGap 52 = .ok (.invokevirtual 103, 3) := by decide +kernel
theorem dX5_holdsWithGap_55 : decode cX5_holdsWithGap 55 = .ok (.ifCond .eq 5, 3) := by decide +kernel
theorem dX5_holdsWithGap_58 : decode cX5_holdsWithGap 58 = .ok (.iconst 0, 1) := by decide +kernel
theorem dX5_holdsWithGap_59 : decode cX5_holdsWithGap 59 = .ok (.ireturn, 1) := by decide +kernel
theorem dX5_holdsWithGap_60 : decode cX5_holdsWithGap 60 = .ok (.aload_n 0, 1) := by decide +kernel
theorem dX5_holdsWithGap_61 : decode cX5_holdsWithGap 61 = .ok (.getfield 30, 3) := by decide +kernel
theorem dX5_holdsWithGap_64 : decode cX5_holdsWithGap 64 = .ok (.iload_n 2, 1) := by decide +kernel
theorem dX5_holdsWithGap_65 : decode cX5_holdsWithGap 65 = .ok (.invokevirtual 137, 3) := by decide +kernel
theorem dX5_holdsWithGap_68 : decode cX5_holdsWithGap 68 = .ok (.iconst 1, 1) := by decide +kernel
theorem dX5_holdsWithGap_69 : decode cX5_holdsWithGap 69 = .ok (.ireturn, 1) := by decide +kernel
theorem dX5_holdsWithGap_70 : decode cX5_holdsWithGap 70 = .ok (.iload_n 3, 1) := by decide +kernel
theorem dX5_holdsWithGap_71 : decode cX5_holdsWithGap 71 = .ok (.ifCond .ne 21, 3) := by decide +kernel
theorem dX5_holdsWithGap_74 : decode cX5_holdsWithGap 74 = .ok (.iload_n 2, 1) := by decide +kernel
theorem dX5_holdsWithGap_75 : decode cX5_holdsWithGap 75 = .ok (.invokestatic 88, 3) := by decide +kernel
theorem dX5_holdsWithGap_78 : decode cX5_holdsWithGap 78 = .ok (.ifCond .ne 14, 3) := by decide +kernel
theorem dX5_holdsWithGap_81 : decode cX5_holdsWithGap 81 = .ok (.aload_n 0, 1) := by decide +kernel
theorem dX5_holdsWithGap_82 : decode cX5_holdsWithGap 82 = .ok (.getfield 30, 3) := by decide +kernel
theorem dX5_holdsWithGap_85 : decode cX5_holdsWithGap 85 = .ok (.iload_n 2, 1) := by decide +kernel
theorem dX5_holdsWithGap_86 : decode cX5_holdsWithGap 86 = .ok (.invokevirtual 103, 3) := by decide +kernel
theorem dX5_holdsWithGap_89 : decode cX5_holdsWithGap 89 = .ok (.ifCond .ne 5, 3) := by decide +kernel
theorem dX5_holdsWithGap_92 : decode cX5_holdsWithGap 92 = .ok (.iconst 0, 1) := by decide +kernel
theorem dX5_holdsWithGap_93 : decode cX5_holdsWithGap 93 = .ok (.ireturn, 1) := by decide +kernel
theorem dX5_holdsWithGap_94 : decode cX5_holdsWithGap 94 = .ok (.aload_n 0, 1) := by decide +kernel
theorem dX5_holdsWithGap_95 : decode cX5_holdsWithGap 95 = .ok (.getfield 30, 3) := by decide +kernel
theorem dX5_holdsWithGap_98 : decode cX5_holdsWithGap 98 = .ok (.iload_n 2, 1) := by decide +kernel
theorem dX5_holdsWithGap_99 : decode cX5_holdsWithGap 99 = .ok (.invokevirtual 144, 3) := by decide +kernel
theorem dX5_holdsWithGap_102 : decode cX5_holdsWithGap 102 = .ok (.iconst 1, 1) := by decide +kernel
theorem dX5_holdsWithGap_103 : decode cX5_holdsWithGap 103 = .ok (.ireturn, 1) := by decide +kernel
theorem dX5_holdsWithGap_104 : decode cX5_holdsWithGap 104 = .ok (.iload_n 2, 1) := by decide +kernel
theorem dX5_holdsWithGap_105 : decode cX5_holdsWithGap 105 = .ok (.ifCond .ne 18, 3) := by decide +kernel
theorem dX5_holdsWithGap_108 : decode cX5_holdsWithGap 108 = .ok (.aload_n 0, 1) := by decide +kernel
theorem dX5_holdsWithGap_109 : decode cX5_holdsWithGap 109 = .ok (.getfield 30, 3) := by decide +kernel
theorem dX5_holdsWithGap_112 : decode cX5_holdsWithGap 112 = .ok (.getfield 134, 3) := by decide +kernel
theorem dX5_holdsWithGap_115 : decode cX5_holdsWithGap 115 = .ok (.iload_n 3, 1) := by decide +kernel
theorem dX5_holdsWithGap_116 : decode cX5_holdsWithGap 116 = .ok (.if_icmp .ne 7, 3) := by decide +kernel
theorem dX5_holdsWithGap_119 : decode cX5_holdsWithGap 119 = .ok (.iconst 1, 1) := by decide +kernel
theorem dX5_holdsWithGap_120 : decode cX5_holdsWithGap 120 = .ok (.goto 4, 3) := by decide +kernel
theorem dX5_holdsWithGap_123 : decode cX5_holdsWithGap 123 = .ok (.iconst 0, 1) := by decide +kernel
theorem dX5_holdsWithGap_124 : decode cX5_holdsWithGap 124 = .ok (.ireturn, 1) := by decide +kernel
theorem dX5_holdsWithGap_125 : decode cX5_holdsWithGap 125 = .ok (.iload_n 2, 1) := by decide +kernel
theorem dX5_holdsWithGap_126 : decode cX5_holdsWithGap 126 = .ok (.invokestatic 88, 3) := by decide +kernel
theorem dX5_holdsWithGap_129 : decode cX5_holdsWithGap 129 = .ok (.ifCond .ne 25, 3) := by decide +kernel
theorem dX5_holdsWithGap_132 : decode cX5_holdsWithGap 132 = .ok (.aload_n 0, 1) := by decide +kernel
theorem dX5_holdsWithGap_133 : decode cX5_holdsWithGap 133 = .ok (.getfield 30, 3) := by decide +kernel
theorem dX5_holdsWithGap_136 : decode cX5_holdsWithGap 136 = .ok (.getfield 92, 3) := by decide +kernel
theorem dX5_holdsWithGap_139 : decode cX5_holdsWithGap 139 = .ok (.iload_n 2, 1) := by decide +kernel
theorem dX5_holdsWithGap_140 : decode cX5_holdsWithGap 140 = .ok (.faload, 1) := by decide +kernel
theorem dX5_holdsWithGap_141 : decode cX5_holdsWithGap 141 = .ok (.invokestatic 283, 3) := by decide +kernel
theorem dX5_holdsWithGap_144 : decode cX5_holdsWithGap 144 = .ok (.iload_n 3, 1) := by decide +kernel
theorem dX5_holdsWithGap_145 : decode cX5_holdsWithGap 145 = .ok (.iconst 1, 1) := by decide +kernel
theorem dX5_holdsWithGap_146 : decode cX5_holdsWithGap 146 = .ok (.isub, 1) := by decide +kernel
theorem dX5_holdsWithGap_147 : decode cX5_holdsWithGap 147 = .ok (.if_icmp .ne 7, 3) := by decide +kernel
theorem dX5_holdsWithGap_150 : decode cX5_holdsWithGap 150 = .ok (.iconst 1, 1) := by decide +kernel
theorem dX5_holdsWithGap_151 : decode cX5_holdsWithGap 151 = .ok (.goto 4, 3) := by decide +kernel
theorem dX5_holdsWithGap_154 : decode cX5_holdsWithGap 154 = .ok (.iconst 0, 1) := by decide +kernel
theorem dX5_holdsWithGap_155 : decode cX5_holdsWithGap 155 = .ok (.ireturn, 1) := by decide +kernel
theorem dX5_holdsWithGap_156 : decode cX5_holdsWithGap 156 = .ok (.iload_n 2, 1) := by decide +kernel
theorem dX5_holdsWithGap_157 : decode cX5_holdsWithGap 157 = .ok (.ifCond .ne 13, 3) := by decide +kernel
theorem dX5_holdsWithGap_160 : decode cX5_holdsWithGap 160 = .ok (.aload_n 0, 1) := by decide +kernel
theorem dX5_holdsWithGap_161 : decode cX5_holdsWithGap 161 = .ok (.getfield 30, 3) := by decide +kernel
theorem dX5_holdsWithGap_164 : decode cX5_holdsWithGap 164 = .ok (.getfield 156, 3) := by decide +kernel
theorem dX5_holdsWithGap_167 : decode cX5_holdsWithGap 167 = .ok (.iconst 2, 1) := by decide +kernel
theorem dX5_holdsWithGap_168 : decode cX5_holdsWithGap 168 = .ok (.iload_n 3, 1) := by decide +kernel
theorem dX5_holdsWithGap_169 : decode cX5_holdsWithGap 169 = .ok (.iastore, 1) := by decide +kernel
theorem dX5_holdsWithGap_170 : decode cX5_holdsWithGap 170 = .ok (.iload_n 2, 1) := by decide +kernel
theorem dX5_holdsWithGap_171 : decode cX5_holdsWithGap 171 = .ok (.ifCond .ne 7, 3) := by decide +kernel
theorem dX5_holdsWithGap_174 : decode cX5_holdsWithGap 174 = .ok (.iconst 1, 1) := by decide +kernel
theorem dX5_holdsWithGap_175 : decode cX5_holdsWithGap 175 = .ok (.goto 4, 3) := by decide +kernel
theorem dX5_holdsWithGap_178 : decode cX5_holdsWithGap 178 = .ok (.iconst 0, 1) := by decide +kernel
theorem dX5_holdsWithGap_179 : decode cX5_holdsWithGap 179 = .ok (.ireturn, 1) := by decide +kernel
theorem dX5_holdsWithGap_180 : decode cX5_holdsWithGap 180 = .ok (.iconst 0, 1) := by decide +kernel
theorem dX5_holdsWithGap_181 : decode cX5_holdsWithGap 181 = .ok (.ireturn, 1) := by decide +kernel
set_option maxRecDepth 20000 in
theorem ggX5_holdsWithGap_X5_noWheel : GoodIn wsX5_holdsWithGap wsX5_noWheel := goodIn_r _ [5, 6, 7, 4, 8] rfl (by decide +kernel)
set_option maxRecDepth 20000 in
theorem gX5_holdsWithGap_X5_noWheel : GoodIn wsX5_holdsWithGap (va_wsS RX5 88 yX5_noWheel wsX5_noWheel) := goodIn_app (goodIn_of _ (by decide +kernel)) ggX5_holdsWithGap_X5_noWheel
set_option maxRecDepth 20000 in
theorem ggX5_holdsWithGap_X4_isDead : GoodIn wsX5_holdsWithGap wsX4_isDead := goodIn_r _ [12, 13, 50, 51, 52, 53, 54, 55, 56, 57, 58, 59, 60] rfl (by decide +kernel)
set_option maxRecDepth 20000 in
theorem ggX5_holdsWithGap_X4_strike : GoodIn wsX5_holdsWithGap wsX4_strike := goodIn_r _ [16, 13, 17, 18, 19, 10, 20, 21, 22, 23, 24, 25, 26, 27, 28, 29, 30, 31, 32, 50, 51, 52, 53, 54, 55, 56, 57, 58, 59, 60] rfl (by decide +kernel)
set_option maxRecDepth 20000 in
theorem ggX5_holdsWithGap_X4_revive : GoodIn wsX5_holdsWithGap wsX4_revive := goodIn_r _ [35, 13, 50, 51, 52, 53, 54, 55, 56, 57, 58, 59, 60] rfl (by decide +kernel)
set_option maxRecDepth 20000 in
theorem ggX5_holdsWithGap_X5_signOf : GoodIn wsX5_holdsWithGap wsX5_signOf := goodIn_r _ [38] rfl (by decide +kernel)
set_option maxRecDepth 20000 in
theorem gX5_holdsWithGap_X5_signOf : GoodIn wsX5_holdsWithGap (va_wsS RX5 283 yX5_signOf wsX5_signOf) := goodIn_app (goodIn_of _ (by decide +kernel)) ggX5_holdsWithGap_X5_signOf
theorem inX5_holdsWithGap_X4 : ∀ w ∈ u_ws RX4 TX4 11, w ∈ wsX5_holdsWithGap := fun w h => List.mem_cons_of_mem _ (List.mem_append_right _ h)
theorem inX5_holdsWithGap_X5 : ∀ w ∈ u_ws RX5 TX5 11, w ∈ wsX5_holdsWithGap := fun w h => List.mem_cons_of_mem _ (List.mem_append_left _ (List.mem_append_right _ h))
set_option maxRecDepth 100000 in
set_option maxHeartbeats 4000000 in
theorem m_X5_holdsWithGap {l : Launch} {D : va_G} {E : Nat → ClassId} {T : Nat → Nat} (ob : Nat) (kh : Nat) (ks : Nat) (kt : Nat) (kq : Nat) (z0 : Value) (z1 : Value) (z2 : Value) (z4 : Value) (z5 : Value) (z6 : Value) (z7 : Value) (z8 : Value) (z9 : Value) (z10 : Value) (kd : Nat) (a : Nat) (c0 : Nat) (B : Nat) (S : TS) (hok : OkS B S) (hk9 : kd < 10) (ha : a < 10) (hc0 : c0 < 10) : g_M l D E T yX5_holdsWithGap wsX5_holdsWithGap 4 81 [.ref ob, .int (nI kd), .int (nI a), .int (nI c0)] [(ob, .inr (5, [z0, z1, z2, .ref kh, z4, z5, z6, z7, z8, z9, z10])), (kh, .inr (4, [.ref ks, .ref kt, .ref kq, .int (nI (sD S)), .int (sM S), .float (sP S), .int (sI S), .int (sC S), .int (sA S), .int (sR S), .int (nI (sK S))])), (ks, .inl (E 1, 4, .inr (.inr (.inl (sF S))))), (kt, .inl (E 0, 4, .inl (sT S))), (kq, .inl (E 0, 18, .inl (sW S)))] [(ob, .inr (5, [z0, z1, z2, .ref kh, z4, z5, z6, z7, z8, z9, z10])), (kh, .inr (4, [.ref ks, .ref kt, .ref kq, .int (nI (sD (gpS kd a c0 S))), .int (sM (gpS kd a c0 S)), .float (sP (gpS kd a c0 S)), .int (sI (gpS kd a c0 S)), .int (sC (gpS kd a c0 S)), .int (sA (gpS kd a c0 S)), .int (sR (gpS kd a c0 S)), .int (nI (sK (gpS kd a c0 S)))])), (ks, .inl (E 1, 4, .inr (.inr (.inl (sF (gpS kd a c0 S)))))), (kt, .inl (E 0, 4, .inl (sT (gpS kd a c0 S)))), (kq, .inl (E 0, 18, .inl (sW (gpS kd a c0 S))))] (some (.int (b2i (gpB kd a c0 S)))) := by
  refine g_M.of (cc := cX5_holdsWithGap) (nL := 4) (ret := (some .boolean)) (own := RX5) (lv := [(0, .ref ob), (1, .int (nI kd)), (2, .int (nI a)), (3, .int (nI c0))]) (by decide) rfl rfl (Nat.le_of_ble_eq_true rfl) rfl ?_
  intro p e R s m args below meth c A Q H locs ls hR hQ hc hr hw hl
  have hx := hc.1
  have hb := hc.2.1
  have hts := hc.2.2.2.1
  have hown := hc.2.2.2.2.1
  refine lv_iload_n hx hb dX5_holdsWithGap_0 rfl (lv_at hl 1 rfl) ?_
  by_cases y_2 : (nI kd) = 2
  · skip
    refine lv_tableIn (off := 35) (tgt := 36) hx hb dX5_holdsWithGap_1 (by rw [y_2]; decide) (by rw [y_2]; decide) (by rw [y_2]; rfl) (by decide) ?_
    have m_2 : kd = 2 := nf_eqT rfl rfl (by omega) (by decide) y_2
    refine lv_iload_n hx hb dX5_holdsWithGap_36 rfl (lv_at hl 3 rfl) ?_
    refine lv_if_ne (tgt := 58) hx hb dX5_holdsWithGap_37 (by decide) (fun c_37 => ?_) (fun c_37 => ?_)
    · skip
      have n_37 : ¬ c0 = 0 := nf_neT rfl rfl (by omega) (by omega) c_37
      refine lv_iconst (v := 0) hx hb dX5_holdsWithGap_58 (by decide) ?_
      have hg : gpB kd a c0 S = false := by rw [gpB_2 m_2, decide_eq_false (fun q => n_37 q.1)]; rfl
      exact g_zret hQ hc hw hr (by exact congrArg (fun z => some (Value.int z)) (by rw [hg]; rfl)) (by first | rfl | (split <;> rfl) | exact g_nb _) (by rw [gpS_f hg] <;> rfl) dX5_holdsWithGap_59
    · skip
      have n_37 : c0 = 0 := nf_neF rfl rfl (by omega) (by omega) c_37
      refine lv_iload_n hx hb dX5_holdsWithGap_40 rfl (lv_at hl 2 rfl) ?_
      refine g_cS (As := [.int (nI a)]) (n := 1) (rest := []) (wc := []) (w1 := []) (bytes := cX5_noWheel) (maxL := 1) (ret := (some .boolean)) hc hw hl.1 (m_X5_noWheel (l := l) (D := D) (E := E) (T := T) (nI a)) gX5_holdsWithGap_X5_noWheel rfl (by decide +kernel) (by rw [hR]; exact ⟨Nat.le_of_ble_eq_true rfl, Nat.le_of_ble_eq_true rfl⟩) [] (by decide) rfl [] rfl rfl rfl rfl (Nat.le_of_ble_eq_true rfl) dX5_holdsWithGap_41 ⟨Nat.zero_le _, Nat.zero_le _⟩ (fun H locs hw => ?_)
      have hw : g_W D A s [(ob, .inr (5, [z0, z1, z2, .ref kh, z4, z5, z6, z7, z8, z9, z10])), (kh, .inr (4, [.ref ks, .ref kt, .ref kq, .int (nI (sD S)), .int (sM S), .float (sP S), .int (sI S), .int (sC S), .int (sA S), .int (sR S), .int (nI (sK S))])), (ks, .inl (E 1, 4, .inr (.inr (.inl (sF S))))), (kt, .inl (E 0, 4, .inl (sT S))), (kq, .inl (E 0, 18, .inl (sW S)))] H locs := hw
      refine W.eq (congrArg (fun z => F0 m 44 ls (.int z :: [])) (show (b2i (outB (nI a) 0 3) : Int32) = b2i (decide (3 < a)) from (congrArg b2i (out_43 (by omega))))) ?_
      refine lv_if_ne (tgt := 58) hx hb dX5_holdsWithGap_44 (by decide) (fun c_44 => ?_) (fun c_44 => ?_)
      · skip
        have k_44 := b2i_ne c_44
        have h44 := of_decide_eq_true k_44
        refine lv_iconst (v := 0) hx hb dX5_holdsWithGap_58 (by decide) ?_
        have hg : gpB kd a c0 S = false := by rw [gpB_2 m_2, decide_eq_false (fun q => q.2 h44)]; rfl
        exact g_zret hQ hc hw hr (by exact congrArg (fun z => some (Value.int z)) (by rw [hg]; rfl)) (by first | rfl | (split <;> rfl) | exact g_nb _) (by rw [gpS_f hg] <;> rfl) dX5_holdsWithGap_59
      · skip
        have k_44 := b2i_eq c_44
        have h44 := of_decide_eq_false k_44
        refine lv_aload_n hx hb dX5_holdsWithGap_47 rfl (lv_at hl 0 rfl) ?_
        refine g_get (TT := TX5) hc hw inX5_holdsWithGap_X5 0 3 1 rfl rfl (by decide) rfl rfl dX5_holdsWithGap_48 ?_
        refine lv_iload_n hx hb dX5_holdsWithGap_51 rfl (lv_at hl 2 rfl) ?_
        refine g_cVN (As := [.int (nI a)]) (n := 1) (rest := []) (wc := [(kh, .inr (4, [.ref ks, .ref kt, .ref kq, .int (nI (sD S)), .int (sM S), .float (sP S), .int (sI S), .int (sC S), .int (sA S), .int (sR S), .int (nI (sK S))]))]) (w1 := [(kh, .inr (4, [.ref ks, .ref kt, .ref kq, .int (nI (sD S)), .int (sM S), .float (sP S), .int (sI S), .int (sC S), .int (sA S), .int (sR S), .int (nI (sK S))]))]) (bytes := cX4_isDead) (maxL := 2) (ret := (some .boolean)) hc hw hl.1 (m_X4_isDead (l := l) (D := D) (E := E) (T := T) kh (.ref ks) (.ref kt) (.ref kq) (.int (sM S)) (.float (sP S)) (.int (sI S)) (.int (sC S)) (.int (sA S)) (.int (sR S)) (.int (nI (sK S))) (sD S) a hok.d (by omega)) ggX5_holdsWithGap_X4_isDead rfl 52 rfl 10 9 11 rfl rfl rfl (by decide +kernel) (by rw [hR]; exact ⟨Nat.le_of_ble_eq_true rfl, Nat.le_of_ble_eq_true rfl⟩) [1] 1 4 rfl rfl (by decide) rfl [kh] rfl rfl rfl rfl (Nat.le_of_ble_eq_true rfl) dX5_holdsWithGap_52 ⟨Nat.zero_le _, Nat.zero_le _⟩ (fun H locs hw => ?_)
        have hw : g_W D A s [(ob, .inr (5, [z0, z1, z2, .ref kh, z4, z5, z6, z7, z8, z9, z10])), (kh, .inr (4, [.ref ks, .ref kt, .ref kq, .int (nI (sD S)), .int (sM S), .float (sP S), .int (sI S), .int (sC S), .int (sA S), .int (sR S), .int (nI (sK S))])), (ks, .inl (E 1, 4, .inr (.inr (.inl (sF S))))), (kt, .inl (E 0, 4, .inl (sT S))), (kq, .inl (E 0, 18, .inl (sW S)))] H locs := hw
        refine lv_if_eq (tgt := 60) hx hb dX5_holdsWithGap_55 (by decide) (fun c_55 => ?_) (fun c_55 => ?_)
        · skip
          have k_55 := b2i_eq c_55
          refine lv_aload_n hx hb dX5_holdsWithGap_60 rfl (lv_at hl 0 rfl) ?_
          refine g_get (TT := TX5) hc hw inX5_holdsWithGap_X5 0 3 1 rfl rfl (by decide) rfl rfl dX5_holdsWithGap_61 ?_
          refine lv_iload_n hx hb dX5_holdsWithGap_64 rfl (lv_at hl 2 rfl) ?_
          refine g_cVN (As := [.int (nI a)]) (n := 1) (rest := []) (wc := [(kh, .inr (4, [.ref ks, .ref kt, .ref kq, .int (nI (sD S)), .int (sM S), .float (sP S), .int (sI S), .int (sC S), .int (sA S), .int (sR S), .int (nI (sK S))]))]) (w1 := [(kh, .inr (4, [.ref ks, .ref kt, .ref kq, .int (nI (dIn (sD S) a)), .int (spM (dIn (sD S) a) (sM S)), .float (sP S), .int (sI S), .int (sC S), .int (sA S), .int (sR S), .int (nI (sK S))]))]) (bytes := cX4_strike) (maxL := 2) (ret := none) hc hw hl.1 (m_X4_strike (l := l) (D := D) (E := E) (T := T) kh (.ref ks) (.ref kt) (.ref kq) (.float (sP S)) (.int (sI S)) (.int (sC S)) (.int (sA S)) (.int (sR S)) (.int (nI (sK S))) (sD S) (sM S) a hok.d (by omega)) ggX5_holdsWithGap_X4_strike rfl 65 rfl 10 14 15 rfl rfl rfl (by decide +kernel) (by rw [hR]; exact ⟨Nat.le_of_ble_eq_true rfl, Nat.le_of_ble_eq_true rfl⟩) [1] 1 4 rfl rfl (by decide) rfl [kh] rfl rfl rfl rfl (Nat.le_of_ble_eq_true rfl) dX5_holdsWithGap_65 ⟨Nat.zero_le _, Nat.zero_le _⟩ (fun H locs hw => ?_)
          have hw : g_W D A s [(ob, .inr (5, [z0, z1, z2, .ref kh, z4, z5, z6, z7, z8, z9, z10])), (kh, .inr (4, [.ref ks, .ref kt, .ref kq, .int (nI (dIn (sD S) a)), .int (spM (dIn (sD S) a) (sM S)), .float (sP S), .int (sI S), .int (sC S), .int (sA S), .int (sR S), .int (nI (sK S))])), (ks, .inl (E 1, 4, .inr (.inr (.inl (sF S))))), (kt, .inl (E 0, 4, .inl (sT S))), (kq, .inl (E 0, 18, .inl (sW S)))] H locs := hw
          refine lv_iconst (v := 1) hx hb dX5_holdsWithGap_68 (by decide) ?_
          have hg : gpB kd a c0 S = true := by rw [gpB_2 m_2, k_55, decide_eq_true ⟨n_37, h44⟩]; rfl
          exact g_zret hQ hc hw hr (by exact congrArg (fun z => some (Value.int z)) (by rw [hg]; rfl)) (by first | rfl | (split <;> rfl) | exact g_nb _) (by rw [gpS_2 hg m_2] <;> rfl) dX5_holdsWithGap_69
        · skip
          have k_55 := b2i_ne c_55
          refine lv_iconst (v := 0) hx hb dX5_holdsWithGap_58 (by decide) ?_
          have hg : gpB kd a c0 S = false := by rw [gpB_2 m_2, k_55]; simp
          exact g_zret hQ hc hw hr (by exact congrArg (fun z => some (Value.int z)) (by rw [hg]; rfl)) (by first | rfl | (split <;> rfl) | exact g_nb _) (by rw [gpS_f hg] <;> rfl) dX5_holdsWithGap_59
  have m_2 : ¬ kd = 2 := nf_eqF rfl rfl (by omega) (by decide) y_2
  by_cases y_3 : (nI kd) = 3
  · skip
    refine lv_tableIn (off := 69) (tgt := 70) hx hb dX5_holdsWithGap_1 (by rw [y_3]; decide) (by rw [y_3]; decide) (by rw [y_3]; rfl) (by decide) ?_
    have m_3 : kd = 3 := nf_eqT rfl rfl (by omega) (by decide) y_3
    refine lv_iload_n hx hb dX5_holdsWithGap_70 rfl (lv_at hl 3 rfl) ?_
    refine lv_if_ne (tgt := 92) hx hb dX5_holdsWithGap_71 (by decide) (fun c_71 => ?_) (fun c_71 => ?_)
    · skip
      have n_71 : ¬ c0 = 0 := nf_neT rfl rfl (by omega) (by omega) c_71
      refine lv_iconst (v := 0) hx hb dX5_holdsWithGap_92 (by decide) ?_
      have hg : gpB kd a c0 S = false := by rw [gpB_3 m_3, decide_eq_false (fun q => n_71 q.1)]; rfl
      exact g_zret hQ hc hw hr (by exact congrArg (fun z => some (Value.int z)) (by rw [hg]; rfl)) (by first | rfl | (split <;> rfl) | exact g_nb _) (by rw [gpS_f hg] <;> rfl) dX5_holdsWithGap_93
    · skip
      have n_71 : c0 = 0 := nf_neF rfl rfl (by omega) (by omega) c_71
      refine lv_iload_n hx hb dX5_holdsWithGap_74 rfl (lv_at hl 2 rfl) ?_
      refine g_cS (As := [.int (nI a)]) (n := 1) (rest := []) (wc := []) (w1 := []) (bytes := cX5_noWheel) (maxL := 1) (ret := (some .boolean)) hc hw hl.1 (m_X5_noWheel (l := l) (D := D) (E := E) (T := T) (nI a)) gX5_holdsWithGap_X5_noWheel rfl (by decide +kernel) (by rw [hR]; exact ⟨Nat.le_of_ble_eq_true rfl, Nat.le_of_ble_eq_true rfl⟩) [] (by decide) rfl [] rfl rfl rfl rfl (Nat.le_of_ble_eq_true rfl) dX5_holdsWithGap_75 ⟨Nat.zero_le _, Nat.zero_le _⟩ (fun H locs hw => ?_)
      have hw : g_W D A s [(ob, .inr (5, [z0, z1, z2, .ref kh, z4, z5, z6, z7, z8, z9, z10])), (kh, .inr (4, [.ref ks, .ref kt, .ref kq, .int (nI (sD S)), .int (sM S), .float (sP S), .int (sI S), .int (sC S), .int (sA S), .int (sR S), .int (nI (sK S))])), (ks, .inl (E 1, 4, .inr (.inr (.inl (sF S))))), (kt, .inl (E 0, 4, .inl (sT S))), (kq, .inl (E 0, 18, .inl (sW S)))] H locs := hw
      refine W.eq (congrArg (fun z => F0 m 78 ls (.int z :: [])) (show (b2i (outB (nI a) 0 3) : Int32) = b2i (decide (3 < a)) from (congrArg b2i (out_43 (by omega))))) ?_
      refine lv_if_ne (tgt := 92) hx hb dX5_holdsWithGap_78 (by decide) (fun c_78 => ?_) (fun c_78 => ?_)
      · skip
        have k_78 := b2i_ne c_78
        have h78 := of_decide_eq_true k_78
        refine lv_iconst (v := 0) hx hb dX5_holdsWithGap_92 (by decide) ?_
        have hg : gpB kd a c0 S = false := by rw [gpB_3 m_3, decide_eq_false (fun q => q.2 h78)]; rfl
        exact g_zret hQ hc hw hr (by exact congrArg (fun z => some (Value.int z)) (by rw [hg]; rfl)) (by first | rfl | (split <;> rfl) | exact g_nb _) (by rw [gpS_f hg] <;> rfl) dX5_holdsWithGap_93
      · skip
        have k_78 := b2i_eq c_78
        have h78 := of_decide_eq_false k_78
        refine lv_aload_n hx hb dX5_holdsWithGap_81 rfl (lv_at hl 0 rfl) ?_
        refine g_get (TT := TX5) hc hw inX5_holdsWithGap_X5 0 3 1 rfl rfl (by decide) rfl rfl dX5_holdsWithGap_82 ?_
        refine lv_iload_n hx hb dX5_holdsWithGap_85 rfl (lv_at hl 2 rfl) ?_
        refine g_cVN (As := [.int (nI a)]) (n := 1) (rest := []) (wc := [(kh, .inr (4, [.ref ks, .ref kt, .ref kq, .int (nI (sD S)), .int (sM S), .float (sP S), .int (sI S), .int (sC S), .int (sA S), .int (sR S), .int (nI (sK S))]))]) (w1 := [(kh, .inr (4, [.ref ks, .ref kt, .ref kq, .int (nI (sD S)), .int (sM S), .float (sP S), .int (sI S), .int (sC S), .int (sA S), .int (sR S), .int (nI (sK S))]))]) (bytes := cX4_isDead) (maxL := 2) (ret := (some .boolean)) hc hw hl.1 (m_X4_isDead (l := l) (D := D) (E := E) (T := T) kh (.ref ks) (.ref kt) (.ref kq) (.int (sM S)) (.float (sP S)) (.int (sI S)) (.int (sC S)) (.int (sA S)) (.int (sR S)) (.int (nI (sK S))) (sD S) a hok.d (by omega)) ggX5_holdsWithGap_X4_isDead rfl 52 rfl 10 9 11 rfl rfl rfl (by decide +kernel) (by rw [hR]; exact ⟨Nat.le_of_ble_eq_true rfl, Nat.le_of_ble_eq_true rfl⟩) [1] 1 4 rfl rfl (by decide) rfl [kh] rfl rfl rfl rfl (Nat.le_of_ble_eq_true rfl) dX5_holdsWithGap_86 ⟨Nat.zero_le _, Nat.zero_le _⟩ (fun H locs hw => ?_)
        have hw : g_W D A s [(ob, .inr (5, [z0, z1, z2, .ref kh, z4, z5, z6, z7, z8, z9, z10])), (kh, .inr (4, [.ref ks, .ref kt, .ref kq, .int (nI (sD S)), .int (sM S), .float (sP S), .int (sI S), .int (sC S), .int (sA S), .int (sR S), .int (nI (sK S))])), (ks, .inl (E 1, 4, .inr (.inr (.inl (sF S))))), (kt, .inl (E 0, 4, .inl (sT S))), (kq, .inl (E 0, 18, .inl (sW S)))] H locs := hw
        refine lv_if_ne (tgt := 94) hx hb dX5_holdsWithGap_89 (by decide) (fun c_89 => ?_) (fun c_89 => ?_)
        · skip
          have k_89 := b2i_ne c_89
          refine lv_aload_n hx hb dX5_holdsWithGap_94 rfl (lv_at hl 0 rfl) ?_
          refine g_get (TT := TX5) hc hw inX5_holdsWithGap_X5 0 3 1 rfl rfl (by decide) rfl rfl dX5_holdsWithGap_95 ?_
          refine lv_iload_n hx hb dX5_holdsWithGap_98 rfl (lv_at hl 2 rfl) ?_
          refine g_cVN (As := [.int (nI a)]) (n := 1) (rest := []) (wc := [(kh, .inr (4, [.ref ks, .ref kt, .ref kq, .int (nI (sD S)), .int (sM S), .float (sP S), .int (sI S), .int (sC S), .int (sA S), .int (sR S), .int (nI (sK S))]))]) (w1 := [(kh, .inr (4, [.ref ks, .ref kt, .ref kq, .int (nI (dOut (sD S) a)), .int (sM S), .float (sP S), .int (sI S), .int (sC S), .int (sA S), .int (sR S), .int (nI (sK S))]))]) (bytes := cX4_revive) (maxL := 2) (ret := none) hc hw hl.1 (m_X4_revive (l := l) (D := D) (E := E) (T := T) kh (.ref ks) (.ref kt) (.ref kq) (.int (sM S)) (.float (sP S)) (.int (sI S)) (.int (sC S)) (.int (sA S)) (.int (sR S)) (.int (nI (sK S))) (sD S) a hok.d (by omega)) ggX5_holdsWithGap_X4_revive rfl 67 rfl 10 33 34 rfl rfl rfl (by decide +kernel) (by rw [hR]; exact ⟨Nat.le_of_ble_eq_true rfl, Nat.le_of_ble_eq_true rfl⟩) [1] 1 4 rfl rfl (by decide) rfl [kh] rfl rfl rfl rfl (Nat.le_of_ble_eq_true rfl) dX5_holdsWithGap_99 ⟨Nat.zero_le _, Nat.zero_le _⟩ (fun H locs hw => ?_)
          have hw : g_W D A s [(ob, .inr (5, [z0, z1, z2, .ref kh, z4, z5, z6, z7, z8, z9, z10])), (kh, .inr (4, [.ref ks, .ref kt, .ref kq, .int (nI (dOut (sD S) a)), .int (sM S), .float (sP S), .int (sI S), .int (sC S), .int (sA S), .int (sR S), .int (nI (sK S))])), (ks, .inl (E 1, 4, .inr (.inr (.inl (sF S))))), (kt, .inl (E 0, 4, .inl (sT S))), (kq, .inl (E 0, 18, .inl (sW S)))] H locs := hw
          refine lv_iconst (v := 1) hx hb dX5_holdsWithGap_102 (by decide) ?_
          have hg : gpB kd a c0 S = true := by rw [gpB_3 m_3, k_89, decide_eq_true ⟨n_71, h78⟩]; rfl
          exact g_zret hQ hc hw hr (by exact congrArg (fun z => some (Value.int z)) (by rw [hg]; rfl)) (by first | rfl | (split <;> rfl) | exact g_nb _) (by rw [gpS_3 hg m_3] <;> rfl) dX5_holdsWithGap_103
        · skip
          have k_89 := b2i_eq c_89
          refine lv_iconst (v := 0) hx hb dX5_holdsWithGap_92 (by decide) ?_
          have hg : gpB kd a c0 S = false := by rw [gpB_3 m_3, k_89]; simp
          exact g_zret hQ hc hw hr (by exact congrArg (fun z => some (Value.int z)) (by rw [hg]; rfl)) (by first | rfl | (split <;> rfl) | exact g_nb _) (by rw [gpS_f hg] <;> rfl) dX5_holdsWithGap_93
  have m_3 : ¬ kd = 3 := nf_eqF rfl rfl (by omega) (by decide) y_3
  by_cases y_4 : (nI kd) = 4
  · skip
    refine lv_tableIn (off := 103) (tgt := 104) hx hb dX5_holdsWithGap_1 (by rw [y_4]; decide) (by rw [y_4]; decide) (by rw [y_4]; rfl) (by decide) ?_
    have m_4 : kd = 4 := nf_eqT rfl rfl (by omega) (by decide) y_4
    refine lv_iload_n hx hb dX5_holdsWithGap_104 rfl (lv_at hl 2 rfl) ?_
    refine lv_if_ne (tgt := 123) hx hb dX5_holdsWithGap_105 (by decide) (fun c_105 => ?_) (fun c_105 => ?_)
    · skip
      have n_105 : ¬ a = 0 := nf_neT rfl rfl (by omega) (by omega) c_105
      refine lv_iconst (v := 0) hx hb dX5_holdsWithGap_123 (by decide) ?_
      have hg : gpB kd a c0 S = false := by rw [gpB_4 m_4]; exact decide_eq_false (fun q => n_105 q.1)
      exact g_zret hQ hc hw hr (by exact congrArg (fun z => some (Value.int z)) (by rw [hg]; rfl)) (by first | rfl | (split <;> rfl) | exact g_nb _) (by rw [gpS_f hg] <;> rfl) dX5_holdsWithGap_124
    · skip
      have n_105 : a = 0 := nf_neF rfl rfl (by omega) (by omega) c_105
      refine lv_aload_n hx hb dX5_holdsWithGap_108 rfl (lv_at hl 0 rfl) ?_
      refine g_get (TT := TX5) hc hw inX5_holdsWithGap_X5 0 3 1 rfl rfl (by decide) rfl rfl dX5_holdsWithGap_109 ?_
      refine g_getN (TT := TX4) hc hw inX5_holdsWithGap_X4 1 4 28 rfl rfl (by decide) rfl rfl dX5_holdsWithGap_112 ?_
      refine lv_iload_n hx hb dX5_holdsWithGap_115 rfl (lv_at hl 3 rfl) ?_
      refine lv_icmp_ne (tgt := 123) hx hb dX5_holdsWithGap_116 (by decide) (fun c_116 => ?_) (fun c_116 => ?_)
      · skip
        refine lv_iconst (v := 0) hx hb dX5_holdsWithGap_123 (by decide) ?_
        have hg : gpB kd a c0 S = false := by rw [gpB_4 m_4]; exact decide_eq_false (fun q => c_116 q.2)
        exact g_zret hQ hc hw hr (by exact congrArg (fun z => some (Value.int z)) (by rw [hg]; rfl)) (by first | rfl | (split <;> rfl) | exact g_nb _) (by rw [gpS_f hg] <;> rfl) dX5_holdsWithGap_124
      · skip
        refine lv_iconst (v := 1) hx hb dX5_holdsWithGap_119 (by decide) ?_
        refine lv_goto (tgt := 124) hx hb dX5_holdsWithGap_120 (by decide) ?_
        have hg : gpB kd a c0 S = true := by rw [gpB_4 m_4]; exact decide_eq_true ⟨n_105, c_116⟩
        exact g_zret hQ hc hw hr (by exact congrArg (fun z => some (Value.int z)) (by rw [hg]; rfl)) (by first | rfl | (split <;> rfl) | exact g_nb _) (by rw [gpS_o (by omega) (by omega) (by omega)] <;> rfl) dX5_holdsWithGap_124
  have m_4 : ¬ kd = 4 := nf_eqF rfl rfl (by omega) (by decide) y_4
  by_cases y_5 : (nI kd) = 5
  · skip
    refine lv_tableIn (off := 124) (tgt := 125) hx hb dX5_holdsWithGap_1 (by rw [y_5]; decide) (by rw [y_5]; decide) (by rw [y_5]; rfl) (by decide) ?_
    have m_5 : kd = 5 := nf_eqT rfl rfl (by omega) (by decide) y_5
    refine lv_iload_n hx hb dX5_holdsWithGap_125 rfl (lv_at hl 2 rfl) ?_
    refine g_cS (As := [.int (nI a)]) (n := 1) (rest := []) (wc := []) (w1 := []) (bytes := cX5_noWheel) (maxL := 1) (ret := (some .boolean)) hc hw hl.1 (m_X5_noWheel (l := l) (D := D) (E := E) (T := T) (nI a)) gX5_holdsWithGap_X5_noWheel rfl (by decide +kernel) (by rw [hR]; exact ⟨Nat.le_of_ble_eq_true rfl, Nat.le_of_ble_eq_true rfl⟩) [] (by decide) rfl [] rfl rfl rfl rfl (Nat.le_of_ble_eq_true rfl) dX5_holdsWithGap_126 ⟨Nat.zero_le _, Nat.zero_le _⟩ (fun H locs hw => ?_)
    have hw : g_W D A s [(ob, .inr (5, [z0, z1, z2, .ref kh, z4, z5, z6, z7, z8, z9, z10])), (kh, .inr (4, [.ref ks, .ref kt, .ref kq, .int (nI (sD S)), .int (sM S), .float (sP S), .int (sI S), .int (sC S), .int (sA S), .int (sR S), .int (nI (sK S))])), (ks, .inl (E 1, 4, .inr (.inr (.inl (sF S))))), (kt, .inl (E 0, 4, .inl (sT S))), (kq, .inl (E 0, 18, .inl (sW S)))] H locs := hw
    refine W.eq (congrArg (fun z => F0 m 129 ls (.int z :: [])) (show (b2i (outB (nI a) 0 3) : Int32) = b2i (decide (3 < a)) from (congrArg b2i (out_43 (by omega))))) ?_
    refine lv_if_ne (tgt := 154) hx hb dX5_holdsWithGap_129 (by decide) (fun c_129 => ?_) (fun c_129 => ?_)
    · skip
      have k_129 := b2i_ne c_129
      have h129 := of_decide_eq_true k_129
      refine lv_iconst (v := 0) hx hb dX5_holdsWithGap_154 (by decide) ?_
      have hg : gpB kd a c0 S = false := by rw [gpB_5 m_5]; exact decide_eq_false (fun q => q.1 h129)
      exact g_zret hQ hc hw hr (by exact congrArg (fun z => some (Value.int z)) (by rw [hg]; rfl)) (by first | rfl | (split <;> rfl) | exact g_nb _) (by rw [gpS_f hg] <;> rfl) dX5_holdsWithGap_155
    · skip
      have k_129 := b2i_eq c_129
      have h129 := of_decide_eq_false k_129
      refine lv_aload_n hx hb dX5_holdsWithGap_132 rfl (lv_at hl 0 rfl) ?_
      refine g_get (TT := TX5) hc hw inX5_holdsWithGap_X5 0 3 1 rfl rfl (by decide) rfl rfl dX5_holdsWithGap_133 ?_
      refine g_getN (TT := TX4) hc hw inX5_holdsWithGap_X4 1 0 16 rfl rfl (by decide) rfl rfl dX5_holdsWithGap_136 ?_
      refine lv_iload_n hx hb dX5_holdsWithGap_139 rfl (lv_at hl 2 rfl) ?_
      refine g_fld hc hw 2 a rfl rfl (by omega) (by decide) dX5_holdsWithGap_140 ?_
      refine g_cS (As := [.float ((sF S) a)]) (n := 1) (rest := []) (wc := []) (w1 := []) (bytes := cX5_signOf) (maxL := 1) (ret := (some .int)) hc hw hl.1 (m_X5_signOf (l := l) (D := D) (E := E) (T := T) ((sF S) a)) gX5_holdsWithGap_X5_signOf rfl (by decide +kernel) (by rw [hR]; exact ⟨Nat.le_of_ble_eq_true rfl, Nat.le_of_ble_eq_true rfl⟩) [] (by decide) rfl [] rfl rfl rfl rfl (Nat.le_of_ble_eq_true rfl) dX5_holdsWithGap_141 ⟨Nat.zero_le _, Nat.zero_le _⟩ (fun H locs hw => ?_)
      have hw : g_W D A s [(ob, .inr (5, [z0, z1, z2, .ref kh, z4, z5, z6, z7, z8, z9, z10])), (kh, .inr (4, [.ref ks, .ref kt, .ref kq, .int (nI (sD S)), .int (sM S), .float (sP S), .int (sI S), .int (sC S), .int (sA S), .int (sR S), .int (nI (sK S))])), (ks, .inl (E 1, 4, .inr (.inr (.inl (sF S))))), (kt, .inl (E 0, 4, .inl (sT S))), (kq, .inl (E 0, 18, .inl (sW S)))] H locs := hw
      refine lv_iload_n hx hb dX5_holdsWithGap_144 rfl (lv_at hl 3 rfl) ?_
      refine lv_iconst (v := 1) hx hb dX5_holdsWithGap_145 (by decide) ?_
      refine lv_isub hx hb dX5_holdsWithGap_146 ?_
      refine lv_icmp_ne (tgt := 154) hx hb dX5_holdsWithGap_147 (by decide) (fun c_147 => ?_) (fun c_147 => ?_)
      · skip
        refine lv_iconst (v := 0) hx hb dX5_holdsWithGap_154 (by decide) ?_
        have hg : gpB kd a c0 S = false := by rw [gpB_5 m_5]; exact decide_eq_false (fun q => c_147 q.2)
        exact g_zret hQ hc hw hr (by exact congrArg (fun z => some (Value.int z)) (by rw [hg]; rfl)) (by first | rfl | (split <;> rfl) | exact g_nb _) (by rw [gpS_f hg] <;> rfl) dX5_holdsWithGap_155
      · skip
        refine lv_iconst (v := 1) hx hb dX5_holdsWithGap_150 (by decide) ?_
        refine lv_goto (tgt := 155) hx hb dX5_holdsWithGap_151 (by decide) ?_
        have hg : gpB kd a c0 S = true := by rw [gpB_5 m_5]; exact decide_eq_true ⟨h129, c_147⟩
        exact g_zret hQ hc hw hr (by exact congrArg (fun z => some (Value.int z)) (by rw [hg]; rfl)) (by first | rfl | (split <;> rfl) | exact g_nb _) (by rw [gpS_o (by omega) (by omega) (by omega)] <;> rfl) dX5_holdsWithGap_155
  have m_5 : ¬ kd = 5 := nf_eqF rfl rfl (by omega) (by decide) y_5
  by_cases y_6 : (nI kd) = 6
  · skip
    refine lv_tableIn (off := 155) (tgt := 156) hx hb dX5_holdsWithGap_1 (by rw [y_6]; decide) (by rw [y_6]; decide) (by rw [y_6]; rfl) (by decide) ?_
    have m_6 : kd = 6 := nf_eqT rfl rfl (by omega) (by decide) y_6
    refine lv_iload_n hx hb dX5_holdsWithGap_156 rfl (lv_at hl 2 rfl) ?_
    refine lv_if_ne (tgt := 170) hx hb dX5_holdsWithGap_157 (by decide) (fun c_157 => ?_) (fun c_157 => ?_)
    · skip
      have n_157 : ¬ a = 0 := nf_neT rfl rfl (by omega) (by omega) c_157
      refine lv_iload_n hx hb dX5_holdsWithGap_170 rfl (lv_at hl 2 rfl) ?_
      refine lv_if_ne (tgt := 178) hx hb dX5_holdsWithGap_171 (by decide) (fun c_171 => ?_) (fun c_171 => absurd (show a = 0 from nf_eqT rfl rfl (by omega) (by decide) c_171) n_157)
      refine lv_iconst (v := 0) hx hb dX5_holdsWithGap_178 (by decide) ?_
      have hg : gpB kd a c0 S = false := by rw [gpB_6 m_6]; exact decide_eq_false n_157
      exact g_zret hQ hc hw hr (by exact congrArg (fun z => some (Value.int z)) (by rw [hg]; rfl)) (by first | rfl | (split <;> rfl) | exact g_nb _) (by rw [gpS_f hg] <;> rfl) dX5_holdsWithGap_179
    · skip
      have n_157 : a = 0 := nf_neF rfl rfl (by omega) (by omega) c_157
      refine lv_aload_n hx hb dX5_holdsWithGap_160 rfl (lv_at hl 0 rfl) ?_
      refine g_get (TT := TX5) hc hw inX5_holdsWithGap_X5 0 3 1 rfl rfl (by decide) rfl rfl dX5_holdsWithGap_161 ?_
      refine g_getN (TT := TX4) hc hw inX5_holdsWithGap_X4 1 1 20 rfl rfl (by decide) rfl rfl dX5_holdsWithGap_164 ?_
      refine lv_iconst (v := 2) hx hb dX5_holdsWithGap_167 (by decide) ?_
      refine lv_iload_n hx hb dX5_holdsWithGap_168 rfl (lv_at hl 3 rfl) ?_
      refine g_ist hc hw 3 2 rfl rfl (by omega) (by decide) dX5_holdsWithGap_169 (fun H locs hw => ?_)
      have hw : g_W D A s [(ob, .inr (5, [z0, z1, z2, .ref kh, z4, z5, z6, z7, z8, z9, z10])), (kh, .inr (4, [.ref ks, .ref kt, .ref kq, .int (nI (sD S)), .int (sM S), .float (sP S), .int (sI S), .int (sC S), .int (sA S), .int (sR S), .int (nI (sK S))])), (ks, .inl (E 1, 4, .inr (.inr (.inl (sF S))))), (kt, .inl (E 0, 4, .inl (upd (sT S) 2 (nI c0)))), (kq, .inl (E 0, 18, .inl (sW S)))] H locs := hw
      refine lv_iload_n hx hb dX5_holdsWithGap_170 rfl (lv_at hl 2 rfl) ?_
      refine lv_if_ne (tgt := 178) hx hb dX5_holdsWithGap_171 (by decide) (fun c_171 => absurd (by rw [n_157]; rfl) c_171) (fun c_171 => ?_)
      refine lv_iconst (v := 1) hx hb dX5_holdsWithGap_174 (by decide) ?_
      refine lv_goto (tgt := 179) hx hb dX5_holdsWithGap_175 (by decide) ?_
      have hg : gpB kd a c0 S = true := by rw [gpB_6 m_6]; exact decide_eq_true n_157
      exact g_zret hQ hc hw hr (by exact congrArg (fun z => some (Value.int z)) (by rw [hg]; rfl)) (by first | rfl | (split <;> rfl) | exact g_nb _) (by rw [gpS_6 hg m_6] <;> rfl) dX5_holdsWithGap_179
  have m_6 : ¬ kd = 6 := nf_eqF rfl rfl (by omega) (by decide) y_6
  have z_2 := lv_neT (a := 2) y_2 (by decide)
  have z_3 := lv_neT (a := 3) y_3 (by decide)
  have z_4 := lv_neT (a := 4) y_4 (by decide)
  have z_5 := lv_neT (a := 5) y_5 (by decide)
  have z_6 := lv_neT (a := 6) y_6 (by decide)
  refine lv_tableOut (tgt := 180) hx hb dX5_holdsWithGap_1 (by omega) (by decide) ?_
  refine lv_iconst (v := 0) hx hb dX5_holdsWithGap_180 (by decide) ?_
  have hg : gpB kd a c0 S = false := by exact gpB_o m_2 m_3 m_4 m_5 m_6
  exact g_zret hQ hc hw hr (by exact congrArg (fun z => some (Value.int z)) (by rw [hg]; rfl)) (by first | rfl | (split <;> rfl) | exact g_nb _) (by rw [gpS_f hg] <;> rfl) dX5_holdsWithGap_181

theorem dX5_holds_0 : decode cX5_holds 0 = .ok (.iload_n 1, 1) := by decide +kernel
theorem dX5_holds_1 : decode cX5_holds 1 = .ok (.bipush 100, 2) := by decide +kernel
theorem dX5_holds_3 : decode cX5_holds 3 = .ok (.idiv, 1) := by decide +kernel
theorem dX5_holds_4 : decode cX5_holds 4 = .ok (.bipush 10, 2) := by decide +kernel
theorem dX5_holds_6 : decode cX5_holds 6 = .ok (.irem, 1) := by decide +kernel
theorem dX5_holds_7 : decode cX5_holds 7 = .ok (.istore_n 2, 1) := by decide +kernel
theorem dX5_holds_8 : decode cX5_holds 8 = .ok (.iload_n 1, 1) := by decide +kernel
theorem dX5_holds_9 : decode cX5_holds 9 = .ok (.bipush 10, 2) := by decide +kernel
theorem dX5_holds_11 : decode cX5_holds 11 = .ok (.idiv, 1) := by decide +kernel
theorem dX5_holds_12 : decode cX5_holds 12 = .ok (.bipush 10, 2) := by decide +kernel
theorem dX5_holds_14 : decode cX5_holds 14 = .ok (.irem, 1) := by decide +kernel
theorem dX5_holds_15 : decode cX5_holds 15 = .ok (.istore_n 3, 1) := by decide +kernel
theorem dX5_holds_16 : decode cX5_holds 16 = .ok (.iload_n 1, 1) := by decide +kernel
theorem dX5_holds_17 : decode cX5_holds 17 = .ok (.bipush 10, 2) := by decide +kernel
theorem dX5_holds_19 : decode cX5_holds 19 = .ok (.irem, 1) := by decide +kernel
theorem dX5_holds_20 : decode cX5_holds 20 = .ok (.istore 4, 2) := by decide +kernel
theorem dX5_holds_22 : decode cX5_holds 22 = .ok (.iload_n 1, 1) := by decide +kernel
theorem dX5_holds_23 : decode cX5_holds 23 = .ok (.sipush 1000, 3) := by decide +kernel
theorem dX5_holds_26 : decode cX5_holds 26 = .ok (.idiv, 1) := by decide +kernel
theorem dX5_holds_27 : decode cX5_holds 27 = .ok (.istore 5, 2) := by decide +kernel
theorem dX5_holds_29 : decode cX5_holds 29 = .ok (.iload 5, 2) := by decide +kernel
theorem dX5_holds_31 : decode cX5_holds 31 = .ok (.iconst 1, 1) := by decide +kernel
theorem dX5_holds_32 : decode cX5_holds 32 = .ok (.if_icmp .ne 50, 3) := by decide +kernel
theorem dX5_holds_35 : decode cX5_holds 35 = .ok (.iload 4, 2) := by decide +kernel
theorem dX5_holds_37 : decode cX5_holds 37 = .ok (.ifCond .ne 13, 3) := by decide +kernel
theorem dX5_holds_40 : decode cX5_holds 40 = .ok (.iload_n 2, 1) := by decide +kernel
theorem dX5_holds_41 : decode cX5_holds 41 = .ok (.iload_n 3, 1) := by decide +kernel
theorem dX5_holds_42 : decode cX5_holds 42 = .ok (.iadd, 1) := by decide +kernel
theorem dX5_holds_43 : decode cX5_holds 43 = .ok (.ifCond .le 7, 3) := by decide +kernel
theorem dX5_holds_46 : decode cX5_holds 46 = .ok (.iconst 1, 1) := by decide +kernel
theorem dX5_holds_47 : decode cX5_holds 47 = .ok (.goto 4, 3) := by decide +kernel
theorem dX5_holds_50 : decode cX5_holds 50 = .ok (.iconst 0, 1) := by decide +kernel
theorem dX5_holds_51 : decode cX5_holds 51 = .ok (.istore 6, 2) := by decide +kernel
theorem dX5_holds_53 : decode cX5_holds 53 = .ok (.aload_n 0, 1) := by decide +kernel
theorem dX5_holds_54 : decode cX5_holds 54 = .ok (.getfield 19, 3) := by decide +kernel
theorem dX5_holds_57 : decode cX5_holds 57 = .ok (.aload_n 0, 1) := by decide +kernel
theorem dX5_holds_58 : decode cX5_holds 58 = .ok (.getfield 30, 3) := by decide +kernel
theorem dX5_holds_61 : decode cX5_holds 61 = .ok (.iload 6, 2) := by decide +kernel
theorem dX5_holds_63 : decode cX5_holds 63 = .ok (.ifCond .eq 12, 3) := by decide +kernel
theorem dX5_holds_66 : decode cX5_holds 66 = .ok (.bipush 10, 2) := by decide +kernel
theorem dX5_holds_68 : decode cX5_holds 68 = .ok (.iload_n 2, 1) := by decide +kernel
theorem dX5_holds_69 : decode cX5_holds 69 = .ok (.imul, 1) := by decide +kernel
theorem dX5_holds_70 : decode cX5_holds 70 = .ok (.iload_n 3, 1) := by decide +kernel
theorem dX5_holds_71 : decode cX5_holds 71 = .ok (.iadd, 1) := by decide +kernel
theorem dX5_holds_72 : decode cX5_holds 72 = .ok (.goto 4, 3) := by decide +kernel
theorem dX5_holds_75 : decode cX5_holds 75 = .ok (.iconst 0, 1) := by decide +kernel
theorem dX5_holds_76 : decode cX5_holds 76 = .ok (.invokevirtual 130, 3) := by decide +kernel
theorem dX5_holds_79 : decode cX5_holds 79 = .ok (.iload 6, 2) := by decide +kernel
theorem dX5_holds_81 : decode cX5_holds 81 = .ok (.ireturn, 1) := by decide +kernel
theorem dX5_holds_82 : decode cX5_holds 82 = .ok (.iload 5, 2) := by decide +kernel
theorem dX5_holds_84 : decode cX5_holds 84 = .ok (.bipush 7, 2) := by decide +kernel
theorem dX5_holds_86 : decode cX5_holds 86 = .ok (.if_icmp .ne 30, 3) := by decide +kernel
theorem dX5_holds_89 : decode cX5_holds 89 = .ok (.iload 4, 2) := by decide +kernel
theorem dX5_holds_91 : decode cX5_holds 91 = .ok (.ifCond .ne 23, 3) := by decide +kernel
theorem dX5_holds_94 : decode cX5_holds 94 = .ok (.aload_n 0, 1) := by decide +kernel
theorem dX5_holds_95 : decode cX5_holds 95 = .ok (.getfield 30, 3) := by decide +kernel
theorem dX5_holds_98 : decode cX5_holds 98 = .ok (.getfield 190, 3) := by decide +kernel
theorem dX5_holds_101 : decode cX5_holds 101 = .ok (.bipush 10, 2) := by decide +kernel
theorem dX5_holds_103 : decode cX5_holds 103 = .ok (.iload_n 2, 1) := by decide +kernel
theorem dX5_holds_104 : decode cX5_holds 104 = .ok (.imul, 1) := by decide +kernel
theorem dX5_holds_105 : decode cX5_holds 105 = .ok (.iload_n 3, 1) := by decide +kernel
theorem dX5_holds_106 : decode cX5_holds 106 = .ok (.iadd, 1) := by decide +kernel
theorem dX5_holds_107 : decode cX5_holds 107 = .ok (.if_icmp .ne 7, 3) := by decide +kernel
theorem dX5_holds_110 : decode cX5_holds 110 = .ok (.iconst 1, 1) := by decide +kernel
theorem dX5_holds_111 : decode cX5_holds 111 = .ok (.goto 4, 3) := by decide +kernel
theorem dX5_holds_114 : decode cX5_holds 114 = .ok (.iconst 0, 1) := by decide +kernel
theorem dX5_holds_115 : decode cX5_holds 115 = .ok (.ireturn, 1) := by decide +kernel
theorem dX5_holds_116 : decode cX5_holds 116 = .ok (.iload_n 3, 1) := by decide +kernel
theorem dX5_holds_117 : decode cX5_holds 117 = .ok (.ifCond .ne 19, 3) := by decide +kernel
theorem dX5_holds_120 : decode cX5_holds 120 = .ok (.aload_n 0, 1) := by decide +kernel
theorem dX5_holds_121 : decode cX5_holds 121 = .ok (.iload 5, 2) := by decide +kernel
theorem dX5_holds_123 : decode cX5_holds 123 = .ok (.iload_n 2, 1) := by decide +kernel
theorem dX5_holds_124 : decode cX5_holds 124 = .ok (.iload 4, 2) := by decide +kernel
theorem dX5_holds_126 : decode cX5_holds 126 = .ok (.invokevirtual 280, 3) := by decide +kernel
theorem dX5_holds_129 : decode cX5_holds 129 = .ok (.ifCond .eq 7, 3) := by decide +kernel
theorem dX5_holds_132 : decode cX5_holds 132 = .ok (.iconst 1, 1) := by decide +kernel
theorem dX5_holds_133 : decode cX5_holds 133 = .ok (.goto 4, 3) := by decide +kernel
theorem dX5_holds_136 : decode cX5_holds 136 = .ok (.iconst 0, 1) := by decide +kernel
theorem dX5_holds_137 : decode cX5_holds 137 = .ok (.ireturn, 1) := by decide +kernel
set_option maxRecDepth 20000 in
theorem ggX5_holds_X5_holdsWithGap : GoodIn wsX5_holds wsX5_holdsWithGap := goodIn_r _ [90, 2, 91, 92, 56, 93, 94, 95, 96, 29, 18, 30, 31, 21, 97, 98, 99, 100, 101, 102, 103, 104, 105, 17, 19, 20, 22, 23, 24, 25, 26, 27, 28, 106, 107, 108, 109, 66, 67, 110, 111, 112, 113, 114, 115, 116, 117, 118, 119, 120, 121, 122, 123, 124, 125, 126, 127, 128, 129, 130, 131] rfl (by decide +kernel)
set_option maxRecDepth 20000 in
theorem gX5_holds_X5_holdsWithGap : GoodIn wsX5_holds (wsV RX5 280 RX5 yX5_holdsWithGap wsX5_holdsWithGap) := goodIn_app (goodIn_of _ (by decide +kernel)) ggX5_holds_X5_holdsWithGap
set_option maxRecDepth 20000 in
theorem ggX5_holds_X1_passMany : GoodIn wsX5_holds wsX1_passMany := goodIn_r _ [6, 7, 8, 9, 4, 10, 11, 12, 13, 14, 15, 16, 17, 18, 19, 20, 21, 22, 23, 24, 25, 26, 27, 28, 29, 30, 31, 32, 33, 34, 35, 36, 37, 38, 39, 40, 41, 42, 43, 44, 45, 46, 47, 48, 49, 50, 51, 52, 53, 54, 55, 56, 57, 58, 59, 60, 61, 62, 63, 64, 65, 66, 67, 68, 69, 70, 71, 72, 73, 74, 75, 76, 77, 78, 79, 80, 81, 82, 83, 84, 85, 86, 121, 122, 123, 124, 125, 126, 127, 128, 129, 130, 131, 132, 133, 134, 135, 136, 137, 138, 139, 140, 141] rfl (by decide +kernel)
theorem inX5_holds_X4 : ∀ w ∈ u_ws RX4 TX4 11, w ∈ wsX5_holds := fun w h => List.mem_cons_of_mem _ (List.mem_append_left _ (List.mem_append_right _ h))
theorem inX5_holds_X5 : ∀ w ∈ u_ws RX5 TX5 11, w ∈ wsX5_holds := fun w h => List.mem_cons_of_mem _ (List.mem_append_left _ (List.mem_append_left _ (List.mem_append_right _ h)))
set_option maxRecDepth 100000 in
set_option maxHeartbeats 4000000 in
theorem m_X5_holds {l : Launch} {D : va_G} {E : Nat → ClassId} {T : Nat → Nat} (pl : Nat) (fa : Nat) (nf : Nat) (nw : Nat) (xa : Nat) (ba : Nat) (pa : Nat) (aa : Nat) (fl : Nat → Int32) (x : Nat → Int32) (J : PJ) (ob : Nat) (kh : Nat) (ks : Nat) (kt : Nat) (kq : Nat) (z0 : Value) (z2 : Value) (z4 : Value) (z5 : Value) (z6 : Value) (z7 : Value) (z8 : Value) (z9 : Value) (z10 : Value) (q : Nat) (B : Nat) (S : TS) (hok : OkS B S) (hB : B + 99 < 2 ^ 31) (hnw : nw ≤ 6) (hnf : nf ≤ 6) (hq : q < 10000) : g_M l D E T yX5_holds wsX5_holds 5 123 [.ref ob, .int (nI q)] [(ob, .inr (5, [z0, .ref pl, z2, .ref kh, z4, z5, z6, z7, z8, z9, z10])), (pl, .inr (1, [.ref fa, .int (nI nf), .int (nI nw), .ref xa, .ref ba, .ref pa, .ref aa, .int (jS J), .int (jN J), .float (jH J)])), (fa, .inl (E 0, 18, .inl fl)), (xa, .inl (E 0, 3, .inl x)), (ba, .inl (E 0, 12, .inl (jB J))), (pa, .inl (E 1, 4, .inr (.inr (.inl (jE J))))), (aa, .inl (E 1, 4, .inr (.inr (.inl (jA J))))), (kh, .inr (4, [.ref ks, .ref kt, .ref kq, .int (nI (sD S)), .int (sM S), .float (sP S), .int (sI S), .int (sC S), .int (sA S), .int (sR S), .int (nI (sK S))])), (ks, .inl (E 1, 4, .inr (.inr (.inl (sF S))))), (kt, .inl (E 0, 4, .inl (sT S))), (kq, .inl (E 0, 18, .inl (sW S)))] [(ob, .inr (5, [z0, .ref pl, z2, .ref kh, z4, z5, z6, z7, z8, z9, z10])), (pl, .inr (1, [.ref fa, .int (nI nf), .int (nI nw), .ref xa, .ref ba, .ref pa, .ref aa, .int (jS (hdJ nw nf fl x q S J)), .int (jN (hdJ nw nf fl x q S J)), .float (jH (hdJ nw nf fl x q S J))])), (fa, .inl (E 0, 18, .inl fl)), (xa, .inl (E 0, 3, .inl x)), (ba, .inl (E 0, 12, .inl (jB (hdJ nw nf fl x q S J)))), (pa, .inl (E 1, 4, .inr (.inr (.inl (jE (hdJ nw nf fl x q S J)))))), (aa, .inl (E 1, 4, .inr (.inr (.inl (jA (hdJ nw nf fl x q S J)))))), (kh, .inr (4, [.ref ks, .ref kt, .ref kq, .int (nI (sD (hdS nw nf fl x q S))), .int (sM (hdS nw nf fl x q S)), .float (sP (hdS nw nf fl x q S)), .int (sI (hdS nw nf fl x q S)), .int (sC (hdS nw nf fl x q S)), .int (sA (hdS nw nf fl x q S)), .int (sR (hdS nw nf fl x q S)), .int (nI (sK (hdS nw nf fl x q S)))])), (ks, .inl (E 1, 4, .inr (.inr (.inl (sF (hdS nw nf fl x q S)))))), (kt, .inl (E 0, 4, .inl (sT (hdS nw nf fl x q S)))), (kq, .inl (E 0, 18, .inl (sW (hdS nw nf fl x q S))))] (some (.int (b2i (hdB q S)))) := by
  refine g_M.of (cc := cX5_holds) (nL := 7) (ret := (some .boolean)) (own := RX5) (lv := [(0, .ref ob), (1, .int (nI q))]) (by decide) rfl rfl (Nat.le_of_ble_eq_true rfl) rfl ?_
  intro p e R s m args below meth c A Q H locs ls hR hQ hc hr hw hl
  have hx := hc.1
  have hb := hc.2.1
  have hts := hc.2.2.2.1
  have hown := hc.2.2.2.2.1
  refine lv_iload_n hx hb dX5_holds_0 rfl (lv_at hl 1 rfl) ?_
  refine lv_bipush (v := 100) hx hb dX5_holds_1 (by decide) ?_
  refine lv_idiv hx hb dX5_holds_3 (by decide) ?_
  refine lv_bipush (v := 10) hx hb dX5_holds_4 (by decide) ?_
  refine lv_irem hx hb dX5_holds_6 (by decide) ?_
  refine W.eq (congrArg (fun z => F0 m 7 ls (.int z :: [])) (show (((nI q) / 100) - ((nI q) / 100) / 10 * 10 : Int32) = nI (q / 100 % 10) from (n_rem (n_div rfl rfl (by omega) (by omega) (by omega)) rfl (by omega) (by omega) (by omega)))) ?_
  refine lv_istore_n (lv' := [(2, .int (nI (q / 100 % 10))), (0, .ref ob), (1, .int (nI q))]) hx hb dX5_holds_7 rfl hl (by decide) rfl (fun ls hl => ?_)
  refine lv_iload_n hx hb dX5_holds_8 rfl (lv_at hl 2 rfl) ?_
  refine lv_bipush (v := 10) hx hb dX5_holds_9 (by decide) ?_
  refine lv_idiv hx hb dX5_holds_11 (by decide) ?_
  refine lv_bipush (v := 10) hx hb dX5_holds_12 (by decide) ?_
  refine lv_irem hx hb dX5_holds_14 (by decide) ?_
  refine W.eq (congrArg (fun z => F0 m 15 ls (.int z :: [])) (show (((nI q) / 10) - ((nI q) / 10) / 10 * 10 : Int32) = nI (q / 10 % 10) from (n_rem (n_div rfl rfl (by omega) (by omega) (by omega)) rfl (by omega) (by omega) (by omega)))) ?_
  refine lv_istore_n (lv' := [(3, .int (nI (q / 10 % 10))), (2, .int (nI (q / 100 % 10))), (0, .ref ob), (1, .int (nI q))]) hx hb dX5_holds_15 rfl hl (by decide) rfl (fun ls hl => ?_)
  refine lv_iload_n hx hb dX5_holds_16 rfl (lv_at hl 3 rfl) ?_
  refine lv_bipush (v := 10) hx hb dX5_holds_17 (by decide) ?_
  refine lv_irem hx hb dX5_holds_19 (by decide) ?_
  refine W.eq (congrArg (fun z => F0 m 20 ls (.int z :: [])) (show ((nI q) - (nI q) / 10 * 10 : Int32) = nI (q % 10) from (n_rem rfl rfl (by omega) (by omega) (by omega)))) ?_
  refine lv_istore (lv' := [(4, .int (nI (q % 10))), (3, .int (nI (q / 10 % 10))), (2, .int (nI (q / 100 % 10))), (0, .ref ob), (1, .int (nI q))]) hx hb dX5_holds_20 hl (by decide) rfl (fun ls hl => ?_)
  refine lv_iload_n hx hb dX5_holds_22 rfl (lv_at hl 4 rfl) ?_
  refine lv_sipush (v := 1000) hx hb dX5_holds_23 (by decide) ?_
  refine lv_idiv hx hb dX5_holds_26 (by decide) ?_
  refine W.eq (congrArg (fun z => F0 m 27 ls (.int z :: [])) (show ((nI q) / 1000 : Int32) = nI (q / 1000) from (n_div rfl rfl (by omega) (by omega) (by omega)))) ?_
  refine lv_istore (lv' := [(5, .int (nI (q / 1000))), (4, .int (nI (q % 10))), (3, .int (nI (q / 10 % 10))), (2, .int (nI (q / 100 % 10))), (0, .ref ob), (1, .int (nI q))]) hx hb dX5_holds_27 hl (by decide) rfl (fun ls hl => ?_)
  refine lv_iload hx hb dX5_holds_29 (lv_at hl 0 rfl) ?_
  refine lv_iconst (v := 1) hx hb dX5_holds_31 (by decide) ?_
  refine lv_icmp_ne (tgt := 82) hx hb dX5_holds_32 (by decide) (fun c_32 => ?_) (fun c_32 => ?_)
  · skip
    have n_32 : ¬ (q / 1000) = 1 := nf_neT rfl rfl (by omega) (by omega) c_32
    refine lv_iload hx hb dX5_holds_82 (lv_at hl 0 rfl) ?_
    refine lv_bipush (v := 7) hx hb dX5_holds_84 (by decide) ?_
    refine lv_icmp_ne (tgt := 116) hx hb dX5_holds_86 (by decide) (fun c_86 => ?_) (fun c_86 => ?_)
    · skip
      have n_86 : ¬ (q / 1000) = 7 := nf_neT rfl rfl (by omega) (by omega) c_86
      refine lv_iload_n hx hb dX5_holds_116 rfl (lv_at hl 2 rfl) ?_
      refine lv_if_ne (tgt := 136) hx hb dX5_holds_117 (by decide) (fun c_117 => ?_) (fun c_117 => ?_)
      · skip
        have n_117 : ¬ (q / 10 % 10) = 0 := nf_neT rfl rfl (by omega) (by omega) c_117
        refine lv_iconst (v := 0) hx hb dX5_holds_136 (by decide) ?_
        have hJ : hdJ nw nf fl x q S J = J := if_neg n_32
        have hB9 : hdB q S = false := by rw [hdB, if_neg n_32, if_neg n_86, decide_eq_false n_117]; rfl
        have hS9 : hdS nw nf fl x q S = S := by rw [hdS, if_neg n_32, if_neg n_86, if_neg n_117]
        exact g_zret hQ hc hw hr (by exact congrArg (fun z => some (Value.int z)) (by rw [hB9]; rfl)) (by first | rfl | (split <;> rfl) | exact g_nb _) (by rw [hJ, hS9]) dX5_holds_137
      · skip
        have n_117 : (q / 10 % 10) = 0 := nf_neF rfl rfl (by omega) (by omega) c_117
        refine lv_aload_n hx hb dX5_holds_120 rfl (lv_at hl 4 rfl) ?_
        refine lv_iload hx hb dX5_holds_121 (lv_at hl 0 rfl) ?_
        refine lv_iload_n hx hb dX5_holds_123 rfl (lv_at hl 3 rfl) ?_
        refine lv_iload hx hb dX5_holds_124 (lv_at hl 1 rfl) ?_
        refine g_cV (As := [.int (nI (q / 1000)), .int (nI (q / 100 % 10)), .int (nI (q % 10))]) (n := 3) (rest := []) (wc := [(ob, .inr (5, [z0, .ref pl, z2, .ref kh, z4, z5, z6, z7, z8, z9, z10])), (kh, .inr (4, [.ref ks, .ref kt, .ref kq, .int (nI (sD S)), .int (sM S), .float (sP S), .int (sI S), .int (sC S), .int (sA S), .int (sR S), .int (nI (sK S))])), (ks, .inl (E 1, 4, .inr (.inr (.inl (sF S))))), (kt, .inl (E 0, 4, .inl (sT S))), (kq, .inl (E 0, 18, .inl (sW S)))]) (w1 := [(ob, .inr (5, [z0, .ref pl, z2, .ref kh, z4, z5, z6, z7, z8, z9, z10])), (kh, .inr (4, [.ref ks, .ref kt, .ref kq, .int (nI (sD (gpS (q / 1000) (q / 100 % 10) (q % 10) S))), .int (sM (gpS (q / 1000) (q / 100 % 10) (q % 10) S)), .float (sP (gpS (q / 1000) (q / 100 % 10) (q % 10) S)), .int (sI (gpS (q / 1000) (q / 100 % 10) (q % 10) S)), .int (sC (gpS (q / 1000) (q / 100 % 10) (q % 10) S)), .int (sA (gpS (q / 1000) (q / 100 % 10) (q % 10) S)), .int (sR (gpS (q / 1000) (q / 100 % 10) (q % 10) S)), .int (nI (sK (gpS (q / 1000) (q / 100 % 10) (q % 10) S)))])), (ks, .inl (E 1, 4, .inr (.inr (.inl (sF (gpS (q / 1000) (q / 100 % 10) (q % 10) S)))))), (kt, .inl (E 0, 4, .inl (sT (gpS (q / 1000) (q / 100 % 10) (q % 10) S)))), (kq, .inl (E 0, 18, .inl (sW (gpS (q / 1000) (q / 100 % 10) (q % 10) S))))]) (bytes := cX5_holdsWithGap) (maxL := 4) (ret := (some .boolean)) hc hw hl.1 (m_X5_holdsWithGap (l := l) (D := D) (E := E) (T := T) ob kh ks kt kq z0 (.ref pl) z2 z4 z5 z6 z7 z8 z9 z10 (q / 1000) (q / 100 % 10) (q % 10) B S (by first | assumption | omega | decide) (by omega) (by omega) (by omega)) gX5_holds_X5_holdsWithGap rfl (by decide +kernel) (by rw [hR]; exact ⟨Nat.le_of_ble_eq_true rfl, Nat.le_of_ble_eq_true rfl⟩) [0, 7, 8, 9, 10] 0 5 rfl rfl (by decide) rfl [ob, kh, ks, kt, kq] rfl rfl rfl rfl (Nat.le_of_ble_eq_true rfl) dX5_holds_126 ⟨Nat.zero_le _, Nat.zero_le _⟩ (fun H locs hw => ?_)
        have hw : g_W D A s [(ob, .inr (5, [z0, .ref pl, z2, .ref kh, z4, z5, z6, z7, z8, z9, z10])), (pl, .inr (1, [.ref fa, .int (nI nf), .int (nI nw), .ref xa, .ref ba, .ref pa, .ref aa, .int (jS J), .int (jN J), .float (jH J)])), (fa, .inl (E 0, 18, .inl fl)), (xa, .inl (E 0, 3, .inl x)), (ba, .inl (E 0, 12, .inl (jB J))), (pa, .inl (E 1, 4, .inr (.inr (.inl (jE J))))), (aa, .inl (E 1, 4, .inr (.inr (.inl (jA J))))), (kh, .inr (4, [.ref ks, .ref kt, .ref kq, .int (nI (sD (gpS (q / 1000) (q / 100 % 10) (q % 10) S))), .int (sM (gpS (q / 1000) (q / 100 % 10) (q % 10) S)), .float (sP (gpS (q / 1000) (q / 100 % 10) (q % 10) S)), .int (sI (gpS (q / 1000) (q / 100 % 10) (q % 10) S)), .int (sC (gpS (q / 1000) (q / 100 % 10) (q % 10) S)), .int (sA (gpS (q / 1000) (q / 100 % 10) (q % 10) S)), .int (sR (gpS (q / 1000) (q / 100 % 10) (q % 10) S)), .int (nI (sK (gpS (q / 1000) (q / 100 % 10) (q % 10) S)))])), (ks, .inl (E 1, 4, .inr (.inr (.inl (sF (gpS (q / 1000) (q / 100 % 10) (q % 10) S)))))), (kt, .inl (E 0, 4, .inl (sT (gpS (q / 1000) (q / 100 % 10) (q % 10) S)))), (kq, .inl (E 0, 18, .inl (sW (gpS (q / 1000) (q / 100 % 10) (q % 10) S))))] H locs := hw
        refine lv_if_eq (tgt := 136) hx hb dX5_holds_129 (by decide) (fun c_129 => ?_) (fun c_129 => ?_)
        · skip
          have k_129 := b2i_eq c_129
          refine lv_iconst (v := 0) hx hb dX5_holds_136 (by decide) ?_
          have hJ : hdJ nw nf fl x q S J = J := if_neg n_32
          have hB9 : hdB q S = false := by rw [hdB, if_neg n_32, if_neg n_86, decide_eq_true n_117, k_129]; rfl
          have hS9 : hdS nw nf fl x q S = gpS (q / 1000) (q / 100 % 10) (q % 10) S := by rw [hdS, if_neg n_32, if_neg n_86, if_pos n_117]
          exact g_zret hQ hc hw hr (by exact congrArg (fun z => some (Value.int z)) (by rw [hB9]; rfl)) (by first | rfl | (split <;> rfl) | exact g_nb _) (by rw [hJ, hS9]) dX5_holds_137
        · skip
          have k_129 := b2i_ne c_129
          refine lv_iconst (v := 1) hx hb dX5_holds_132 (by decide) ?_
          refine lv_goto (tgt := 137) hx hb dX5_holds_133 (by decide) ?_
          have hJ : hdJ nw nf fl x q S J = J := if_neg n_32
          have hB9 : hdB q S = true := by rw [hdB, if_neg n_32, if_neg n_86, decide_eq_true n_117, k_129]; rfl
          have hS9 : hdS nw nf fl x q S = gpS (q / 1000) (q / 100 % 10) (q % 10) S := by rw [hdS, if_neg n_32, if_neg n_86, if_pos n_117]
          exact g_zret hQ hc hw hr (by exact congrArg (fun z => some (Value.int z)) (by rw [hB9]; rfl)) (by first | rfl | (split <;> rfl) | exact g_nb _) (by rw [hJ, hS9]) dX5_holds_137
    · skip
      have n_86 : (q / 1000) = 7 := nf_neF rfl rfl (by omega) (by omega) c_86
      refine lv_iload hx hb dX5_holds_89 (lv_at hl 1 rfl) ?_
      refine lv_if_ne (tgt := 114) hx hb dX5_holds_91 (by decide) (fun c_91 => ?_) (fun c_91 => ?_)
      · skip
        have n_91 : ¬ (q % 10) = 0 := nf_neT rfl rfl (by omega) (by omega) c_91
        refine lv_iconst (v := 0) hx hb dX5_holds_114 (by decide) ?_
        have hJ : hdJ nw nf fl x q S J = J := if_neg n_32
        have hB9 : hdB q S = false := by rw [hdB, if_neg n_32, if_pos n_86]; exact decide_eq_false (fun z => n_91 z.1)
        have hS9 : hdS nw nf fl x q S = S := by rw [hdS, if_neg n_32, if_pos n_86]
        exact g_zret hQ hc hw hr (by exact congrArg (fun z => some (Value.int z)) (by rw [hB9]; rfl)) (by first | rfl | (split <;> rfl) | exact g_nb _) (by rw [hJ, hS9]) dX5_holds_115
      · skip
        have n_91 : (q % 10) = 0 := nf_neF rfl rfl (by omega) (by omega) c_91
        refine lv_aload_n hx hb dX5_holds_94 rfl (lv_at hl 4 rfl) ?_
        refine g_get (TT := TX5) hc hw inX5_holds_X5 0 3 2 rfl rfl (by decide) rfl rfl dX5_holds_95 ?_
        refine g_getN (TT := TX4) hc hw inX5_holds_X4 7 6 33 rfl rfl (by decide) rfl rfl dX5_holds_98 ?_
        refine lv_bipush (v := 10) hx hb dX5_holds_101 (by decide) ?_
        refine lv_iload_n hx hb dX5_holds_103 rfl (lv_at hl 3 rfl) ?_
        refine lv_imul hx hb dX5_holds_104 ?_
        refine lv_iload_n hx hb dX5_holds_105 rfl (lv_at hl 2 rfl) ?_
        refine lv_iadd hx hb dX5_holds_106 ?_
        refine W.eq (congrArg (fun z => F0 m 107 ls (.int z :: [.int (sI S)])) (show ((10 * (nI (q / 100 % 10))) + (nI (q / 10 % 10)) : Int32) = nI (10 * (q / 100 % 10) + q / 10 % 10) from (n_add (n_mul rfl rfl) rfl))) ?_
        refine lv_icmp_ne (tgt := 114) hx hb dX5_holds_107 (by decide) (fun c_107 => ?_) (fun c_107 => ?_)
        · skip
          refine lv_iconst (v := 0) hx hb dX5_holds_114 (by decide) ?_
          have hJ : hdJ nw nf fl x q S J = J := if_neg n_32
          have hB9 : hdB q S = false := by rw [hdB, if_neg n_32, if_pos n_86]; exact decide_eq_false (fun z => c_107 z.2)
          have hS9 : hdS nw nf fl x q S = S := by rw [hdS, if_neg n_32, if_pos n_86]
          exact g_zret hQ hc hw hr (by exact congrArg (fun z => some (Value.int z)) (by rw [hB9]; rfl)) (by first | rfl | (split <;> rfl) | exact g_nb _) (by rw [hJ, hS9]) dX5_holds_115
        · skip
          refine lv_iconst (v := 1) hx hb dX5_holds_110 (by decide) ?_
          refine lv_goto (tgt := 115) hx hb dX5_holds_111 (by decide) ?_
          have hJ : hdJ nw nf fl x q S J = J := if_neg n_32
          have hB9 : hdB q S = true := by rw [hdB, if_neg n_32, if_pos n_86]; exact decide_eq_true ⟨n_91, c_107⟩
          have hS9 : hdS nw nf fl x q S = S := by rw [hdS, if_neg n_32, if_pos n_86]
          exact g_zret hQ hc hw hr (by exact congrArg (fun z => some (Value.int z)) (by rw [hB9]; rfl)) (by first | rfl | (split <;> rfl) | exact g_nb _) (by rw [hJ, hS9]) dX5_holds_115
  · skip
    have n_32 : (q / 1000) = 1 := nf_neF rfl rfl (by omega) (by omega) c_32
    have J51 : ∀ (H : Heap) (locs : List Loc) (ls : Array Slot), g_W D A s [(ob, .inr (5, [z0, .ref pl, z2, .ref kh, z4, z5, z6, z7, z8, z9, z10])), (pl, .inr (1, [.ref fa, .int (nI nf), .int (nI nw), .ref xa, .ref ba, .ref pa, .ref aa, .int (jS J), .int (jN J), .float (jH J)])), (fa, .inl (E 0, 18, .inl fl)), (xa, .inl (E 0, 3, .inl x)), (ba, .inl (E 0, 12, .inl (jB J))), (pa, .inl (E 1, 4, .inr (.inr (.inl (jE J))))), (aa, .inl (E 1, 4, .inr (.inr (.inl (jA J))))), (kh, .inr (4, [.ref ks, .ref kt, .ref kq, .int (nI (sD S)), .int (sM S), .float (sP S), .int (sI S), .int (sC S), .int (sA S), .int (sR S), .int (nI (sK S))])), (ks, .inl (E 1, 4, .inr (.inr (.inl (sF S))))), (kt, .inl (E 0, 4, .inl (sT S))), (kq, .inl (E 0, 18, .inl (sW S)))] H locs → lv_has ls 7 [(0, .ref ob), (1, .int (nI q)), (2, .int (nI (q / 100 % 10))), (3, .int (nI (q / 10 % 10))), (4, .int (nI (q % 10))), (5, .int (nI (q / 1000)))] → W p l e R s m args below meth c H locs 0 0 Q (F0 m 51 ls [.int (b2i (decide (q % 10 = 0 ∧ 0 < q / 100 % 10 + q / 10 % 10)))]) := by
      intro   H locs ls hw hl
      refine lv_istore (lv' := [(6, .int (b2i (decide (q % 10 = 0 ∧ 0 < q / 100 % 10 + q / 10 % 10)))), (0, .ref ob), (1, .int (nI q)), (2, .int (nI (q / 100 % 10))), (3, .int (nI (q / 10 % 10))), (4, .int (nI (q % 10))), (5, .int (nI (q / 1000)))]) hx hb dX5_holds_51 hl (by decide) rfl (fun ls hl => ?_)
      refine lv_aload_n hx hb dX5_holds_53 rfl (lv_at hl 1 rfl) ?_
      refine g_get (TT := TX5) hc hw inX5_holds_X5 0 1 1 rfl rfl (by decide) rfl rfl dX5_holds_54 ?_
      refine lv_aload_n hx hb dX5_holds_57 rfl (lv_at hl 1 rfl) ?_
      refine g_get (TT := TX5) hc hw inX5_holds_X5 0 3 2 rfl rfl (by decide) rfl rfl dX5_holds_58 ?_
      refine lv_iload hx hb dX5_holds_61 (lv_at hl 0 rfl) ?_
      have J76 : ∀ (H : Heap) (locs : List Loc) (ls : Array Slot), g_W D A s [(ob, .inr (5, [z0, .ref pl, z2, .ref kh, z4, z5, z6, z7, z8, z9, z10])), (pl, .inr (1, [.ref fa, .int (nI nf), .int (nI nw), .ref xa, .ref ba, .ref pa, .ref aa, .int (jS J), .int (jN J), .float (jH J)])), (fa, .inl (E 0, 18, .inl fl)), (xa, .inl (E 0, 3, .inl x)), (ba, .inl (E 0, 12, .inl (jB J))), (pa, .inl (E 1, 4, .inr (.inr (.inl (jE J))))), (aa, .inl (E 1, 4, .inr (.inr (.inl (jA J))))), (kh, .inr (4, [.ref ks, .ref kt, .ref kq, .int (nI (sD S)), .int (sM S), .float (sP S), .int (sI S), .int (sC S), .int (sA S), .int (sR S), .int (nI (sK S))])), (ks, .inl (E 1, 4, .inr (.inr (.inl (sF S))))), (kt, .inl (E 0, 4, .inl (sT S))), (kq, .inl (E 0, 18, .inl (sW S)))] H locs → lv_has ls 7 [(0, .ref ob), (1, .int (nI q)), (2, .int (nI (q / 100 % 10))), (3, .int (nI (q / 10 % 10))), (4, .int (nI (q % 10))), (5, .int (nI (q / 1000))), (6, .int (b2i (decide (q % 10 = 0 ∧ 0 < q / 100 % 10 + q / 10 % 10))))] → W p l e R s m args below meth c H locs 0 0 Q (F0 m 76 ls [.int (nI (t1P q)), .ref kh, .ref pl]) := by
        intro   H locs ls hw hl
        refine g_cVN (As := [.ref kh, .int (nI (t1P q))]) (n := 2) (rest := []) (wc := [(pl, .inr (1, [.ref fa, .int (nI nf), .int (nI nw), .ref xa, .ref ba, .ref pa, .ref aa, .int (jS J), .int (jN J), .float (jH J)])), (fa, .inl (E 0, 18, .inl fl)), (xa, .inl (E 0, 3, .inl x)), (ba, .inl (E 0, 12, .inl (jB J))), (pa, .inl (E 1, 4, .inr (.inr (.inl (jE J))))), (aa, .inl (E 1, 4, .inr (.inr (.inl (jA J))))), (kh, .inr (4, [.ref ks, .ref kt, .ref kq, .int (nI (sD S)), .int (sM S), .float (sP S), .int (sI S), .int (sC S), .int (sA S), .int (sR S), .int (nI (sK S))])), (ks, .inl (E 1, 4, .inr (.inr (.inl (sF S))))), (kt, .inl (E 0, 4, .inl (sT S))), (kq, .inl (E 0, 18, .inl (sW S)))]) (w1 := [(pl, .inr (1, [.ref fa, .int (nI nf), .int (nI nw), .ref xa, .ref ba, .ref pa, .ref aa, .int (jS (jnN nw nf fl x S J (t1P q))), .int (jN (jnN nw nf fl x S J (t1P q))), .float (jH (jnN nw nf fl x S J (t1P q)))])), (fa, .inl (E 0, 18, .inl fl)), (xa, .inl (E 0, 3, .inl x)), (ba, .inl (E 0, 12, .inl (jB (jnN nw nf fl x S J (t1P q))))), (pa, .inl (E 1, 4, .inr (.inr (.inl (jE (jnN nw nf fl x S J (t1P q))))))), (aa, .inl (E 1, 4, .inr (.inr (.inl (jA (jnN nw nf fl x S J (t1P q))))))), (kh, .inr (4, [.ref ks, .ref kt, .ref kq, .int (nI (sD (tkN nw nf fl x S (t1P q)))), .int (sM (tkN nw nf fl x S (t1P q))), .float (sP (tkN nw nf fl x S (t1P q))), .int (sI (tkN nw nf fl x S (t1P q))), .int (sC (tkN nw nf fl x S (t1P q))), .int (sA (tkN nw nf fl x S (t1P q))), .int (sR (tkN nw nf fl x S (t1P q))), .int (nI (sK (tkN nw nf fl x S (t1P q))))])), (ks, .inl (E 1, 4, .inr (.inr (.inl (sF (tkN nw nf fl x S (t1P q))))))), (kt, .inl (E 0, 4, .inl (sT (tkN nw nf fl x S (t1P q))))), (kq, .inl (E 0, 18, .inl (sW (tkN nw nf fl x S (t1P q)))))]) (bytes := cX1_passMany) (maxL := 4) (ret := none) hc hw hl.1 (m_X1_passMany (l := l) (D := D) (E := E) (T := T) pl fa nf nw xa ba pa aa fl x J kh ks kt kq S B (t1P q) (by first | assumption | omega | decide) (by have := t1P_le hq; omega) (by first | assumption | omega | decide) (by first | assumption | omega | decide)) ggX5_holds_X1_passMany rfl 57 rfl 4 3 5 rfl rfl rfl (by decide +kernel) (by rw [hR]; exact ⟨Nat.le_of_ble_eq_true rfl, Nat.le_of_ble_eq_true rfl⟩) [1, 2, 3, 4, 5, 6, 7, 8, 9, 10] 1 1 rfl rfl (by decide) rfl [pl, fa, xa, ba, pa, aa, kh, ks, kt, kq] rfl rfl rfl rfl (Nat.le_of_ble_eq_true rfl) dX5_holds_76 ⟨Nat.zero_le _, Nat.zero_le _⟩ (fun H locs hw => ?_)
        have hw : g_W D A s [(ob, .inr (5, [z0, .ref pl, z2, .ref kh, z4, z5, z6, z7, z8, z9, z10])), (pl, .inr (1, [.ref fa, .int (nI nf), .int (nI nw), .ref xa, .ref ba, .ref pa, .ref aa, .int (jS (jnN nw nf fl x S J (t1P q))), .int (jN (jnN nw nf fl x S J (t1P q))), .float (jH (jnN nw nf fl x S J (t1P q)))])), (fa, .inl (E 0, 18, .inl fl)), (xa, .inl (E 0, 3, .inl x)), (ba, .inl (E 0, 12, .inl (jB (jnN nw nf fl x S J (t1P q))))), (pa, .inl (E 1, 4, .inr (.inr (.inl (jE (jnN nw nf fl x S J (t1P q))))))), (aa, .inl (E 1, 4, .inr (.inr (.inl (jA (jnN nw nf fl x S J (t1P q))))))), (kh, .inr (4, [.ref ks, .ref kt, .ref kq, .int (nI (sD (tkN nw nf fl x S (t1P q)))), .int (sM (tkN nw nf fl x S (t1P q))), .float (sP (tkN nw nf fl x S (t1P q))), .int (sI (tkN nw nf fl x S (t1P q))), .int (sC (tkN nw nf fl x S (t1P q))), .int (sA (tkN nw nf fl x S (t1P q))), .int (sR (tkN nw nf fl x S (t1P q))), .int (nI (sK (tkN nw nf fl x S (t1P q))))])), (ks, .inl (E 1, 4, .inr (.inr (.inl (sF (tkN nw nf fl x S (t1P q))))))), (kt, .inl (E 0, 4, .inl (sT (tkN nw nf fl x S (t1P q))))), (kq, .inl (E 0, 18, .inl (sW (tkN nw nf fl x S (t1P q)))))] H locs := hw
        refine lv_iload hx hb dX5_holds_79 (lv_at hl 6 rfl) ?_
        exact g_zret hQ hc hw hr (by exact congrArg (fun z => some (Value.int z)) (congrArg b2i (show hdB q S = _ from if_pos n_32))) (by first | rfl | (split <;> rfl) | exact g_nb _) (by rw [show hdS nw nf fl x q S = _ from if_pos n_32, show hdJ nw nf fl x q S J = _ from if_pos n_32]) dX5_holds_81
      refine lv_if_eq (tgt := 75) hx hb dX5_holds_63 (by decide) (fun c_63 => ?_) (fun c_63 => ?_)
      · skip
        have k_63 := b2i_eq c_63
        refine lv_iconst (v := 0) hx hb dX5_holds_75 (by decide) ?_
        refine W.eq (congrArg (fun z => F0 m 76 ls (.int z :: [.ref kh, .ref pl])) (show (0 : Int32) = nI (t1P q) by exact congrArg nI ((if_neg (of_decide_eq_false k_63)).symm))) ?_
        exact J76   _ _ _ hw (lv_sub hl [1, 2, 3, 4, 5, 6, 0] rfl)
      · skip
        have k_63 := b2i_ne c_63
        refine lv_bipush (v := 10) hx hb dX5_holds_66 (by decide) ?_
        refine lv_iload_n hx hb dX5_holds_68 rfl (lv_at hl 3 rfl) ?_
        refine lv_imul hx hb dX5_holds_69 ?_
        refine lv_iload_n hx hb dX5_holds_70 rfl (lv_at hl 4 rfl) ?_
        refine lv_iadd hx hb dX5_holds_71 ?_
        refine W.eq (congrArg (fun z => F0 m 72 ls (.int z :: [.ref kh, .ref pl])) (show ((10 * (nI (q / 100 % 10))) + (nI (q / 10 % 10)) : Int32) = nI (10 * (q / 100 % 10) + q / 10 % 10) from (n_add (n_mul rfl rfl) rfl))) ?_
        refine lv_goto (tgt := 76) hx hb dX5_holds_72 (by decide) ?_
        refine W.eq (congrArg (fun z => F0 m 76 ls (.int z :: [.ref kh, .ref pl])) (show (nI (10 * (q / 100 % 10) + q / 10 % 10) : Int32) = nI (t1P q) by exact congrArg nI ((if_pos (of_decide_eq_true k_63)).symm))) ?_
        exact J76   _ _ _ hw (lv_sub hl [1, 2, 3, 4, 5, 6, 0] rfl)
    refine lv_iload hx hb dX5_holds_35 (lv_at hl 1 rfl) ?_
    refine lv_if_ne (tgt := 50) hx hb dX5_holds_37 (by decide) (fun c_37 => ?_) (fun c_37 => ?_)
    · skip
      have n_37 : ¬ (q % 10) = 0 := nf_neT rfl rfl (by omega) (by omega) c_37
      refine lv_iconst (v := 0) hx hb dX5_holds_50 (by decide) ?_
      refine W.eq (congrArg (fun z => F0 m 51 ls (.int z :: [])) (show (0 : Int32) = b2i (decide (q % 10 = 0 ∧ 0 < q / 100 % 10 + q / 10 % 10)) by exact (b2i_0 (fun z => n_37 z.1)).symm)) ?_
      exact J51   _ _ _ hw (lv_sub hl [4, 5, 3, 2, 1, 0] rfl)
    · skip
      have n_37 : (q % 10) = 0 := nf_neF rfl rfl (by omega) (by omega) c_37
      refine lv_iload_n hx hb dX5_holds_40 rfl (lv_at hl 3 rfl) ?_
      refine lv_iload_n hx hb dX5_holds_41 rfl (lv_at hl 2 rfl) ?_
      refine lv_iadd hx hb dX5_holds_42 ?_
      refine lv_if_le (tgt := 50) hx hb dX5_holds_43 (by decide) (fun c_43 => ?_) (fun c_43 => ?_)
      · skip
        have n_43 : ((q / 100 % 10) + (q / 10 % 10)) ≤ 0 := nf_leT (n_add rfl rfl) rfl (by omega) (by omega) c_43
        refine lv_iconst (v := 0) hx hb dX5_holds_50 (by decide) ?_
        refine W.eq (congrArg (fun z => F0 m 51 ls (.int z :: [])) (show (0 : Int32) = b2i (decide (q % 10 = 0 ∧ 0 < q / 100 % 10 + q / 10 % 10)) by exact (b2i_0 (fun z => by omega)).symm)) ?_
        exact J51   _ _ _ hw (lv_sub hl [4, 5, 3, 2, 1, 0] rfl)
      · skip
        have n_43 : 0 < ((q / 100 % 10) + (q / 10 % 10)) := nf_leF (n_add rfl rfl) rfl (by omega) (by omega) c_43
        refine lv_iconst (v := 1) hx hb dX5_holds_46 (by decide) ?_
        refine lv_goto (tgt := 51) hx hb dX5_holds_47 (by decide) ?_
        refine W.eq (congrArg (fun z => F0 m 51 ls (.int z :: [])) (show (1 : Int32) = b2i (decide (q % 10 = 0 ∧ 0 < q / 100 % 10 + q / 10 % 10)) by exact (b2i_1 ⟨n_37, by omega⟩).symm)) ?_
        exact J51   _ _ _ hw (lv_sub hl [4, 5, 3, 2, 1, 0] rfl)
end P18
