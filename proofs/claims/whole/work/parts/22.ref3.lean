section P22
theorem dX6_turnWheels_0 : decode cX6_turnWheels 0 = .ok (.aload_n 0, 1) := by decide +kernel
theorem dX6_turnWheels_1 : decode cX6_turnWheels 1 = .ok (.aload_n 1, 1) := by decide +kernel
theorem dX6_turnWheels_2 : decode cX6_turnWheels 2 = .ok (.aload_n 2, 1) := by decide +kernel
theorem dX6_turnWheels_3 : decode cX6_turnWheels 3 = .ok (.invokevirtual 180, 3) := by decide +kernel
theorem dX6_turnWheels_6 : decode cX6_turnWheels 6 = .ok (.aload_n 0, 1) := by decide +kernel
theorem dX6_turnWheels_7 : decode cX6_turnWheels 7 = .ok (.getfield 173, 3) := by decide +kernel
theorem dX6_turnWheels_10 : decode cX6_turnWheels 10 = .ok (.aload_n 1, 1) := by decide +kernel
theorem dX6_turnWheels_11 : decode cX6_turnWheels 11 = .ok (.bipush 7, 2) := by decide +kernel
theorem dX6_turnWheels_13 : decode cX6_turnWheels 13 = .ok (.iaload, 1) := by decide +kernel
theorem dX6_turnWheels_14 : decode cX6_turnWheels 14 = .ok (.i2f, 1) := by decide +kernel
theorem dX6_turnWheels_15 : decode cX6_turnWheels 15 = .ok (.fcmp .l, 1) := by decide +kernel
theorem dX6_turnWheels_16 : decode cX6_turnWheels 16 = .ok (.ifCond .le 33, 3) := by decide +kernel
theorem dX6_turnWheels_19 : decode cX6_turnWheels 19 = .ok (.aload_n 1, 1) := by decide +kernel
theorem dX6_turnWheels_20 : decode cX6_turnWheels 20 = .ok (.iconst 2, 1) := by decide +kernel
theorem dX6_turnWheels_21 : decode cX6_turnWheels 21 = .ok (.dup2, 1) := by decide +kernel
theorem dX6_turnWheels_22 : decode cX6_turnWheels 22 = .ok (.iaload, 1) := by decide +kernel
theorem dX6_turnWheels_23 : decode cX6_turnWheels 23 = .ok (.iconst 1, 1) := by decide +kernel
theorem dX6_turnWheels_24 : decode cX6_turnWheels 24 = .ok (.iadd, 1) := by decide +kernel
theorem dX6_turnWheels_25 : decode cX6_turnWheels 25 = .ok (.iastore, 1) := by decide +kernel
theorem dX6_turnWheels_26 : decode cX6_turnWheels 26 = .ok (.aload_n 1, 1) := by decide +kernel
theorem dX6_turnWheels_27 : decode cX6_turnWheels 27 = .ok (.iconst 5, 1) := by decide +kernel
theorem dX6_turnWheels_28 : decode cX6_turnWheels 28 = .ok (.dup2, 1) := by decide +kernel
theorem dX6_turnWheels_29 : decode cX6_turnWheels 29 = .ok (.iaload, 1) := by decide +kernel
theorem dX6_turnWheels_30 : decode cX6_turnWheels 30 = .ok (.iconst 1, 1) := by decide +kernel
theorem dX6_turnWheels_31 : decode cX6_turnWheels 31 = .ok (.iadd, 1) := by decide +kernel
theorem dX6_turnWheels_32 : decode cX6_turnWheels 32 = .ok (.iastore, 1) := by decide +kernel
theorem dX6_turnWheels_33 : decode cX6_turnWheels 33 = .ok (.aload_n 1, 1) := by decide +kernel
theorem dX6_turnWheels_34 : decode cX6_turnWheels 34 = .ok (.iconst 5, 1) := by decide +kernel
theorem dX6_turnWheels_35 : decode cX6_turnWheels 35 = .ok (.iaload, 1) := by decide +kernel
theorem dX6_turnWheels_36 : decode cX6_turnWheels 36 = .ok (.iconst 3, 1) := by decide +kernel
theorem dX6_turnWheels_37 : decode cX6_turnWheels 37 = .ok (.if_icmp .ne 11, 3) := by decide +kernel
theorem dX6_turnWheels_40 : decode cX6_turnWheels 40 = .ok (.aload_n 1, 1) := by decide +kernel
theorem dX6_turnWheels_41 : decode cX6_turnWheels 41 = .ok (.iconst 1, 1) := by decide +kernel
theorem dX6_turnWheels_42 : decode cX6_turnWheels 42 = .ok (.iconst 1, 1) := by decide +kernel
theorem dX6_turnWheels_43 : decode cX6_turnWheels 43 = .ok (.iastore, 1) := by decide +kernel
theorem dX6_turnWheels_44 : decode cX6_turnWheels 44 = .ok (.aload_n 1, 1) := by decide +kernel
theorem dX6_turnWheels_45 : decode cX6_turnWheels 45 = .ok (.iconst 5, 1) := by decide +kernel
theorem dX6_turnWheels_46 : decode cX6_turnWheels 46 = .ok (.iconst 0, 1) := by decide +kernel
theorem dX6_turnWheels_47 : decode cX6_turnWheels 47 = .ok (.iastore, 1) := by decide +kernel
theorem dX6_turnWheels_48 : decode cX6_turnWheels 48 = .ok (.return_, 1) := by decide +kernel
theorem dX6_turnWheels_49 : decode cX6_turnWheels 49 = .ok (.aload_n 1, 1) := by decide +kernel
theorem dX6_turnWheels_50 : decode cX6_turnWheels 50 = .ok (.iconst 5, 1) := by decide +kernel
theorem dX6_turnWheels_51 : decode cX6_turnWheels 51 = .ok (.iconst 0, 1) := by decide +kernel
theorem dX6_turnWheels_52 : decode cX6_turnWheels 52 = .ok (.iastore, 1) := by decide +kernel
theorem dX6_turnWheels_53 : decode cX6_turnWheels 53 = .ok (.iconst 0, 1) := by decide +kernel
theorem dX6_turnWheels_54 : decode cX6_turnWheels 54 = .ok (.istore_n 3, 1) := by decide +kernel
theorem dX6_turnWheels_55 : decode cX6_turnWheels 55 = .ok (.iload_n 3, 1) := by decide +kernel
theorem dX6_turnWheels_56 : decode cX6_turnWheels 56 = .ok (.iconst 4, 1) := by decide +kernel
theorem dX6_turnWheels_57 : decode cX6_turnWheels 57 = .ok (.if_icmp .ge 77, 3) := by decide +kernel
theorem dX6_turnWheels_60 : decode cX6_turnWheels 60 = .ok (.aload_n 1, 1) := by decide +kernel
theorem dX6_turnWheels_61 : decode cX6_turnWheels 61 = .ok (.iconst 0, 1) := by decide +kernel
theorem dX6_turnWheels_62 : decode cX6_turnWheels 62 = .ok (.iaload, 1) := by decide +kernel
theorem dX6_turnWheels_63 : decode cX6_turnWheels 63 = .ok (.iload_n 3, 1) := by decide +kernel
theorem dX6_turnWheels_64 : decode cX6_turnWheels 64 = .ok (.invokestatic 139, 3) := by decide +kernel
theorem dX6_turnWheels_67 : decode cX6_turnWheels 67 = .ok (.ifCond .ne 61, 3) := by decide +kernel
theorem dX6_turnWheels_70 : decode cX6_turnWheels 70 = .ok (.aload_n 1, 1) := by decide +kernel
theorem dX6_turnWheels_71 : decode cX6_turnWheels 71 = .ok (.iconst 3, 1) := by decide +kernel
theorem dX6_turnWheels_72 : decode cX6_turnWheels 72 = .ok (.dup2, 1) := by decide +kernel
theorem dX6_turnWheels_73 : decode cX6_turnWheels 73 = .ok (.iaload, 1) := by decide +kernel
theorem dX6_turnWheels_74 : decode cX6_turnWheels 74 = .ok (.aload_n 2, 1) := by decide +kernel
theorem dX6_turnWheels_75 : decode cX6_turnWheels 75 = .ok (.iload_n 3, 1) := by decide +kernel
theorem dX6_turnWheels_76 : decode cX6_turnWheels 76 = .ok (.faload, 1) := by decide +kernel
theorem dX6_turnWheels_77 : decode cX6_turnWheels 77 = .ok (.fconst 0, 1) := by decide +kernel
theorem dX6_turnWheels_78 : decode cX6_turnWheels 78 = .ok (.fcmp .g, 1) := by decide +kernel
theorem dX6_turnWheels_79 : decode cX6_turnWheels 79 = .ok (.ifCond .ge 14, 3) := by decide +kernel
theorem dX6_turnWheels_82 : decode cX6_turnWheels 82 = .ok (.aload_n 0, 1) := by decide +kernel
theorem dX6_turnWheels_83 : decode cX6_turnWheels 83 = .ok (.getfield 69, 3) := by decide +kernel
theorem dX6_turnWheels_86 : decode cX6_turnWheels 86 = .ok (.iload_n 3, 1) := by decide +kernel
theorem dX6_turnWheels_87 : decode cX6_turnWheels 87 = .ok (.faload, 1) := by decide +kernel
theorem dX6_turnWheels_88 : decode cX6_turnWheels 88 = .ok (.fconst 0, 1) := by decide +kernel
theorem dX6_turnWheels_89 : decode cX6_turnWheels 89 = .ok (.fcmp .l, 1) := by decide +kernel
theorem dX6_turnWheels_90 : decode cX6_turnWheels 90 = .ok (.ifCond .gt 22, 3) := by decide +kernel
theorem dX6_turnWheels_93 : decode cX6_turnWheels 93 = .ok (.aload_n 2, 1) := by decide +kernel
theorem dX6_turnWheels_94 : decode cX6_turnWheels 94 = .ok (.iload_n 3, 1) := by decide +kernel
theorem dX6_turnWheels_95 : decode cX6_turnWheels 95 = .ok (.faload, 1) := by decide +kernel
theorem dX6_turnWheels_96 : decode cX6_turnWheels 96 = .ok (.fconst 0, 1) := by decide +kernel
theorem dX6_turnWheels_97 : decode cX6_turnWheels 97 = .ok (.fcmp .l, 1) := by decide +kernel
theorem dX6_turnWheels_98 : decode cX6_turnWheels 98 = .ok (.ifCond .le 18, 3) := by decide +kernel
theorem dX6_turnWheels_101 : decode cX6_turnWheels 101 = .ok (.aload_n 0, 1) := by decide +kernel
theorem dX6_turnWheels_102 : decode cX6_turnWheels 102 = .ok (.getfield 69, 3) := by decide +kernel
theorem dX6_turnWheels_105 : decode cX6_turnWheels 105 = .ok (.iload_n 3, 1) := by decide +kernel
theorem dX6_turnWheels_106 : decode cX6_turnWheels 106 = .ok (.faload, 1) := by decide +kernel
theorem dX6_turnWheels_107 : decode cX6_turnWheels 107 = .ok (.fconst 0, 1) := by decide +kernel
theorem dX6_turnWheels_108 : decode cX6_turnWheels 108 = .ok (.fcmp .g, 1) := by decide +kernel
theorem dX6_turnWheels_109 : decode cX6_turnWheels 109 = .ok (.ifCond .ge 7, 3) := by decide +kernel
theorem dX6_turnWheels_112 : decode cX6_turnWheels 112 = .ok (.iconst 1, 1) := by decide +kernel
theorem dX6_turnWheels_113 : decode cX6_turnWheels 113 = .ok (.goto 4, 3) := by decide +kernel
theorem dX6_turnWheels_116 : decode cX6_turnWheels 116 = .ok (.iconst 0, 1) := by decide +kernel
theorem dX6_turnWheels_117 : decode cX6_turnWheels 117 = .ok (.iadd, 1) := by decide +kernel
theorem dX6_turnWheels_118 : decode cX6_turnWheels 118 = .ok (.iastore, 1) := by decide +kernel
theorem dX6_turnWheels_119 : decode cX6_turnWheels 119 = .ok (.aload_n 2, 1) := by decide +kernel
theorem dX6_turnWheels_120 : decode cX6_turnWheels 120 = .ok (.iload_n 3, 1) := by decide +kernel
theorem dX6_turnWheels_121 : decode cX6_turnWheels 121 = .ok (.aload_n 0, 1) := by decide +kernel
theorem dX6_turnWheels_122 : decode cX6_turnWheels 122 = .ok (.getfield 69, 3) := by decide +kernel
theorem dX6_turnWheels_125 : decode cX6_turnWheels 125 = .ok (.iload_n 3, 1) := by decide +kernel
theorem dX6_turnWheels_126 : decode cX6_turnWheels 126 = .ok (.faload, 1) := by decide +kernel
theorem dX6_turnWheels_127 : decode cX6_turnWheels 127 = .ok (.fastore, 1) := by decide +kernel
theorem dX6_turnWheels_128 : decode cX6_turnWheels 128 = .ok (.iinc 3 1, 3) := by decide +kernel
theorem dX6_turnWheels_131 : decode cX6_turnWheels 131 = .ok (.goto (-76), 3) := by decide +kernel
theorem dX6_turnWheels_134 : decode cX6_turnWheels 134 = .ok (.return_, 1) := by decide +kernel
set_option maxRecDepth 20000 in
theorem ggX6_turnWheels_X6_layPlan : GoodIn wsX6_turnWheels wsX6_layPlan := goodIn_r _ [7, 8, 9, 1, 10, 2, 11, 12, 13, 14, 6, 15, 16, 17, 18, 19, 20, 21, 22, 23, 24, 25, 26, 27, 28, 29, 30, 31, 32, 33, 34, 35, 36, 37, 38, 39, 40, 41, 42, 43, 44, 45, 46, 47, 48, 49, 50, 51, 52, 53, 54, 55, 56, 57, 58, 59, 60, 61, 62, 63, 64, 65, 66, 67, 68, 69, 70, 71, 72, 73, 74, 75, 76, 77, 78, 79] rfl (by decide +kernel)
set_option maxRecDepth 20000 in
theorem gX6_turnWheels_X6_layPlan : GoodIn wsX6_turnWheels (wsV RX6 180 RX6 yX6_layPlan wsX6_layPlan) := goodIn_app (goodIn_of _ (by decide +kernel)) ggX6_turnWheels_X6_layPlan
set_option maxRecDepth 20000 in
theorem ggX6_turnWheels_X6_has : GoodIn wsX6_turnWheels wsX6_has := goodIn_r _ [22] rfl (by decide +kernel)
set_option maxRecDepth 20000 in
theorem gX6_turnWheels_X6_has : GoodIn wsX6_turnWheels (va_wsS RX6 139 yX6_has wsX6_has) := goodIn_app (goodIn_of _ (by decide +kernel)) ggX6_turnWheels_X6_has
theorem inX6_turnWheels_X6 : ∀ w ∈ u_ws RX6 TX6 36, w ∈ wsX6_turnWheels := fun w h => List.mem_cons_of_mem _ (List.mem_append_right _ h)
set_option maxRecDepth 100000 in
set_option maxHeartbeats 4000000 in
theorem m_X6_turnWheels {l : Launch} {D : va_G} {E : Nat → ClassId} {T : Nat → Nat} (o : Nat) (xa : Nat) (wa : Nat) (la : Nat) (ta : Nat) (sa : Nat) (pp : Nat) (ff : Nat) (nw : Nat) (B : Nat) (u0 : Value) (u1 : Value) (u2 : Value) (u4 : Value) (u5 : Value) (u6 : Value) (u7 : Value) (u8 : Value) (u9 : Value) (u10 : Value) (u11 : Value) (u12 : Value) (u13 : Value) (u14 : Value) (u15 : Value) (u16 : Value) (u17 : Value) (u18 : Value) (u19 : Value) (u20 : Value) (u21 : Value) (u22 : Value) (u23 : Value) (u24 : Value) (u25 : Value) (u26 : Value) (u33 : Value) (u34 : Value) (x : Nat → Int32) (S : TS) (gp : Nat → UInt32) (gt : Nat → UInt32) (ks : Int32) (kn : Int32) (kh : UInt32) (hok : OkS B S) (hp : pcn (sD S) ≤ 1) : g_M l D E T yX6_turnWheels wsX6_turnWheels 4 100 [.ref o, .ref pp, .ref ff] [(o, .inr (6, [u0, u1, u2, .ref xa, u4, u5, u6, u7, u8, u9, u10, u11, u12, u13, u14, u15, u16, u17, u18, u19, u20, u21, u22, u23, u24, u25, u26, .ref wa, .ref la, .ref ta, .int ks, .int kn, .float kh, u33, u34, .ref sa])), (xa, .inl (E 0, 12, .inl (g_tv 0))), (wa, .inl (E 0, 3, .inl (wnF nw x S))), (la, .inl (E 1, 4, .inr (.inr (.inl gp)))), (ta, .inl (E 1, 4, .inr (.inr (.inl gt)))), (sa, .inl (E 0, 9, .inl (g_tv 1))), (pp, .inl (E 0, 29, .inl (pgF S))), (ff, .inl (E 1, 5, .inr (.inr (.inl (fl5 S)))))] [(o, .inr (6, [u0, u1, u2, .ref xa, u4, u5, u6, u7, u8, u9, u10, u11, u12, u13, u14, u15, u16, u17, u18, u19, u20, u21, u22, u23, u24, u25, u26, .ref wa, .ref la, .ref ta, .int (cS nw x S), .int (neF (sD S) (FP.i2f (sT S 1)) (aiF (sF S) (eS nw x S) (cS nw x S)) 4), .float (heF (sD S) (aiF (sF S) (eS nw x S) (cS nw x S)) 4), u33, u34, .ref sa])), (xa, .inl (E 0, 12, .inl (g_tv 0))), (wa, .inl (E 0, 3, .inl (wnF nw x S))), (la, .inl (E 1, 4, .inr (.inr (.inl (amP (sD S) (aiF (sF S) (eS nw x S) (cS nw x S)) (sF S) 4))))), (ta, .inl (E 1, 4, .inr (.inr (.inl (amP (sD S) (aiF (sF S) (eS nw x S) (g_tv 1 (lpN (sD S)))) (sF S) 4))))), (sa, .inl (E 0, 9, .inl (g_tv 1))), (pp, .inl (E 0, 29, .inl (pgF (t1W nw x S)))), (ff, .inl (E 1, 5, .inr (.inr (.inl (fl5 (t1W nw x S))))))] none := by
  refine g_M.of (cc := cX6_turnWheels) (nL := 4) (ret := none) (own := RX6) (lv := [(0, .ref o), (1, .ref pp), (2, .ref ff)]) (by decide) rfl rfl (Nat.le_of_ble_eq_true rfl) rfl ?_
  intro p e R s m args below meth c A Q H locs ls hR hQ hc hr hw hl
  have hx := hc.1
  have hb := hc.2.1
  have hts := hc.2.2.2.1
  have hown := hc.2.2.2.2.1
  refine lv_aload_n hx hb dX6_turnWheels_0 rfl (lv_at hl 0 rfl) ?_
  refine lv_aload_n hx hb dX6_turnWheels_1 rfl (lv_at hl 1 rfl) ?_
  refine lv_aload_n hx hb dX6_turnWheels_2 rfl (lv_at hl 2 rfl) ?_
  refine g_cV (As := [.ref pp, .ref ff]) (n := 2) (rest := []) (wc := [(o, .inr (6, [u0, u1, u2, .ref xa, u4, u5, u6, u7, u8, u9, u10, u11, u12, u13, u14, u15, u16, u17, u18, u19, u20, u21, u22, u23, u24, u25, u26, .ref wa, .ref la, .ref ta, .int ks, .int kn, .float kh, u33, u34, .ref sa])), (xa, .inl (E 0, 12, .inl (g_tv 0))), (wa, .inl (E 0, 3, .inl (wnF nw x S))), (la, .inl (E 1, 4, .inr (.inr (.inl gp)))), (ta, .inl (E 1, 4, .inr (.inr (.inl gt)))), (sa, .inl (E 0, 9, .inl (g_tv 1))), (pp, .inl (E 0, 29, .inl (pgF S))), (ff, .inl (E 1, 5, .inr (.inr (.inl (fl5 S)))))]) (w1 := [(o, .inr (6, [u0, u1, u2, .ref xa, u4, u5, u6, u7, u8, u9, u10, u11, u12, u13, u14, u15, u16, u17, u18, u19, u20, u21, u22, u23, u24, u25, u26, .ref wa, .ref la, .ref ta, .int (cS nw x S), .int (neF (sD S) (FP.i2f (sT S 1)) (aiF (sF S) (eS nw x S) (cS nw x S)) 4), .float (heF (sD S) (aiF (sF S) (eS nw x S) (cS nw x S)) 4), u33, u34, .ref sa])), (xa, .inl (E 0, 12, .inl (g_tv 0))), (wa, .inl (E 0, 3, .inl (wnF nw x S))), (la, .inl (E 1, 4, .inr (.inr (.inl (amP (sD S) (aiF (sF S) (eS nw x S) (cS nw x S)) (sF S) 4))))), (ta, .inl (E 1, 4, .inr (.inr (.inl (amP (sD S) (aiF (sF S) (eS nw x S) (g_tv 1 (lpN (sD S)))) (sF S) 4))))), (sa, .inl (E 0, 9, .inl (g_tv 1))), (pp, .inl (E 0, 29, .inl (pgF S))), (ff, .inl (E 1, 5, .inr (.inr (.inl (fl5 S)))))]) (bytes := cX6_layPlan) (maxL := 8) (ret := none) hc hw hl.1 (m_X6_layPlan (l := l) (D := D) (E := E) (T := T) o xa wa la ta sa pp ff nw B u0 u1 u2 u4 u5 u6 u7 u8 u9 u10 u11 u12 u13 u14 u15 u16 u17 u18 u19 u20 u21 u22 u23 u24 u25 u26 u33 u34 x S gp gt ks kn kh hok hp) gX6_turnWheels_X6_layPlan rfl (by decide +kernel) (by rw [hR]; exact ⟨Nat.le_of_ble_eq_true rfl, Nat.le_of_ble_eq_true rfl⟩) [0, 1, 2, 3, 4, 5, 6, 7] 0 6 rfl rfl (by decide) rfl [o, xa, wa, la, ta, sa, pp, ff] rfl rfl rfl rfl (Nat.le_of_ble_eq_true rfl) dX6_turnWheels_3 ⟨Nat.zero_le _, Nat.zero_le _⟩ (fun H locs hw => ?_)
  have hw : g_W D A s [(o, .inr (6, [u0, u1, u2, .ref xa, u4, u5, u6, u7, u8, u9, u10, u11, u12, u13, u14, u15, u16, u17, u18, u19, u20, u21, u22, u23, u24, u25, u26, .ref wa, .ref la, .ref ta, .int (cS nw x S), .int (neF (sD S) (FP.i2f (sT S 1)) (aiF (sF S) (eS nw x S) (cS nw x S)) 4), .float (heF (sD S) (aiF (sF S) (eS nw x S) (cS nw x S)) 4), u33, u34, .ref sa])), (xa, .inl (E 0, 12, .inl (g_tv 0))), (wa, .inl (E 0, 3, .inl (wnF nw x S))), (la, .inl (E 1, 4, .inr (.inr (.inl (amP (sD S) (aiF (sF S) (eS nw x S) (cS nw x S)) (sF S) 4))))), (ta, .inl (E 1, 4, .inr (.inr (.inl (amP (sD S) (aiF (sF S) (eS nw x S) (g_tv 1 (lpN (sD S)))) (sF S) 4))))), (sa, .inl (E 0, 9, .inl (g_tv 1))), (pp, .inl (E 0, 29, .inl (pgF S))), (ff, .inl (E 1, 5, .inr (.inr (.inl (fl5 S)))))] H locs := hw
  refine lv_aload_n hx hb dX6_turnWheels_6 rfl (lv_at hl 0 rfl) ?_
  refine g_get (TT := TX6) hc hw inX6_turnWheels_X6 0 32 1 rfl rfl (by decide) rfl rfl dX6_turnWheels_7 ?_
  refine lv_aload_n hx hb dX6_turnWheels_10 rfl (lv_at hl 1 rfl) ?_
  refine lv_bipush (v := 7) hx hb dX6_turnWheels_11 (by decide) ?_
  refine g_ild hc hw 6 7 rfl rfl (by omega) (by decide) dX6_turnWheels_13 ?_
  refine W.eq (congrArg (fun z => F0 m 14 ls (.int z :: [.float (heF (sD S) (aiF (sF S) (eS nw x S) (cS nw x S)) 4)])) (show ((pgF S) 7 : Int32) = sT S 0 from rfl)) ?_
  refine lv_i2f hx hb dX6_turnWheels_14 ?_
  refine lv_fcmp hx hb dX6_turnWheels_15 ?_
  refine lv_if_le (tgt := 49) hx hb dX6_turnWheels_16 (by decide) (fun c_16 => ?_) (fun c_16 => ?_)
  · skip
    have k_16 := g_clg c_16
    have hb0 : bS nw x S = false := k_16
    refine lv_aload_n hx hb dX6_turnWheels_49 rfl (lv_at hl 1 rfl) ?_
    refine lv_iconst (v := 5) hx hb dX6_turnWheels_50 (by decide) ?_
    refine lv_iconst (v := 0) hx hb dX6_turnWheels_51 (by decide) ?_
    refine g_ist hc hw 6 5 rfl rfl (by omega) (by decide) dX6_turnWheels_52 (fun H locs hw => ?_)
    have hw : g_W D A s [(o, .inr (6, [u0, u1, u2, .ref xa, u4, u5, u6, u7, u8, u9, u10, u11, u12, u13, u14, u15, u16, u17, u18, u19, u20, u21, u22, u23, u24, u25, u26, .ref wa, .ref la, .ref ta, .int (cS nw x S), .int (neF (sD S) (FP.i2f (sT S 1)) (aiF (sF S) (eS nw x S) (cS nw x S)) 4), .float (heF (sD S) (aiF (sF S) (eS nw x S) (cS nw x S)) 4), u33, u34, .ref sa])), (xa, .inl (E 0, 12, .inl (g_tv 0))), (wa, .inl (E 0, 3, .inl (wnF nw x S))), (la, .inl (E 1, 4, .inr (.inr (.inl (amP (sD S) (aiF (sF S) (eS nw x S) (cS nw x S)) (sF S) 4))))), (ta, .inl (E 1, 4, .inr (.inr (.inl (amP (sD S) (aiF (sF S) (eS nw x S) (g_tv 1 (lpN (sD S)))) (sF S) 4))))), (sa, .inl (E 0, 9, .inl (g_tv 1))), (pp, .inl (E 0, 29, .inl (upd (pgF S) 5 0))), (ff, .inl (E 1, 5, .inr (.inr (.inl (fl5 S)))))] H locs := hw
    rw [pg_R] at hw
    have hw : g_W D A s [(o, .inr (6, [u0, u1, u2, .ref xa, u4, u5, u6, u7, u8, u9, u10, u11, u12, u13, u14, u15, u16, u17, u18, u19, u20, u21, u22, u23, u24, u25, u26, .ref wa, .ref la, .ref ta, .int (cS nw x S), .int (neF (sD S) (FP.i2f (sT S 1)) (aiF (sF S) (eS nw x S) (cS nw x S)) 4), .float (heF (sD S) (aiF (sF S) (eS nw x S) (cS nw x S)) 4), u33, u34, .ref sa])), (xa, .inl (E 0, 12, .inl (g_tv 0))), (wa, .inl (E 0, 3, .inl (wnF nw x S))), (la, .inl (E 1, 4, .inr (.inr (.inl (amP (sD S) (aiF (sF S) (eS nw x S) (cS nw x S)) (sF S) 4))))), (ta, .inl (E 1, 4, .inr (.inr (.inl (amP (sD S) (aiF (sF S) (eS nw x S) (g_tv 1 (lpN (sD S)))) (sF S) 4))))), (sa, .inl (E 0, 9, .inl (g_tv 1))), (pp, .inl (E 0, 29, .inl (pgF (wR S 0)))), (ff, .inl (E 1, 5, .inr (.inr (.inl (fl5 S)))))] H locs := hw
    refine lv_iconst (v := 0) hx hb dX6_turnWheels_53 (by decide) ?_
    refine lv_istore_n (lv' := [(3, .int 0), (0, .ref o), (1, .ref pp), (2, .ref ff)]) hx hb dX6_turnWheels_54 rfl hl (by decide) rfl (fun ls hl => ?_)
    have J55 : ∀ (k9 : Nat) (i : Nat), i + k9 = 4 → ∀ (H : Heap) (locs : List Loc) (ls : Array Slot), g_W D A s [(o, .inr (6, [u0, u1, u2, .ref xa, u4, u5, u6, u7, u8, u9, u10, u11, u12, u13, u14, u15, u16, u17, u18, u19, u20, u21, u22, u23, u24, u25, u26, .ref wa, .ref la, .ref ta, .int (cS nw x S), .int (neF (sD S) (FP.i2f (sT S 1)) (aiF (sF S) (eS nw x S) (cS nw x S)) 4), .float (heF (sD S) (aiF (sF S) (eS nw x S) (cS nw x S)) 4), u33, u34, .ref sa])), (xa, .inl (E 0, 12, .inl (g_tv 0))), (wa, .inl (E 0, 3, .inl (wnF nw x S))), (la, .inl (E 1, 4, .inr (.inr (.inl (amP (sD S) (aiF (sF S) (eS nw x S) (cS nw x S)) (sF S) 4))))), (ta, .inl (E 1, 4, .inr (.inr (.inl (amP (sD S) (aiF (sF S) (eS nw x S) (g_tv 1 (lpN (sD S)))) (sF S) 4))))), (sa, .inl (E 0, 9, .inl (g_tv 1))), (pp, .inl (E 0, 29, .inl (pgF (wC (wR S 0) (crF (sD S) (sF S) (aS nw x S) (sC S) i))))), (ff, .inl (E 1, 5, .inr (.inr (.inl (amP (sD S) (aS nw x S) (fl5 S) i)))))] H locs → lv_has ls 4 [(0, .ref o), (1, .ref pp), (2, .ref ff), (3, .int (nI i))] → W p l e R s m args below meth c H locs 0 0 Q (F0 m 55 ls []) := by
      intro k9
      induction k9 with
      | zero =>
        intro i h9   H locs ls hw hl
        have h9 : i = 4 := h9
        subst h9
        refine lv_iload_n hx hb dX6_turnWheels_55 rfl (lv_at hl 3 rfl) ?_
        refine lv_iconst (v := 4) hx hb dX6_turnWheels_56 (by decide) ?_
        refine lv_icmp_ge (tgt := 134) hx hb dX6_turnWheels_57 (by decide) (fun c_57 => ?_) (fun c_57 => absurd (by first | exact Int32.le_refl _ | decide) c_57)
        exact g_vret hQ hc hw hr rfl (by rw [t1W_n hb0, pgF_wF, fl_am]; rfl) dX6_turnWheels_134
      | succ k9 ih =>
        intro i h9   H locs ls hw hl
        have h9b : i < 4 := by omega
        refine lv_iload_n hx hb dX6_turnWheels_55 rfl (lv_at hl 3 rfl) ?_
        refine lv_iconst (v := 4) hx hb dX6_turnWheels_56 (by decide) ?_
        refine lv_icmp_ge (tgt := 134) hx hb dX6_turnWheels_57 (by decide) (fun c_57 => absurd c_57 (nI_ge h9b (by decide))) (fun c_57 => ?_)
        refine lv_aload_n hx hb dX6_turnWheels_60 rfl (lv_at hl 1 rfl) ?_
        refine lv_iconst (v := 0) hx hb dX6_turnWheels_61 (by decide) ?_
        refine g_ild hc hw 6 0 rfl rfl (by omega) (by decide) dX6_turnWheels_62 ?_
        refine W.eq (congrArg (fun z => F0 m 63 ls (.int z :: [])) (show ((pgF (wC (wR S 0) (crF (sD S) (sF S) (aS nw x S) (sC S) i))) 0 : Int32) = nI (sD (wC (wR S 0) (crF (sD S) (sF S) (aS nw x S) (sC S) i))) from rfl)) ?_
        refine lv_iload_n hx hb dX6_turnWheels_63 rfl (lv_at hl 3 rfl) ?_
        refine g_cS (As := [.int (nI (sD (wC (wR S 0) (crF (sD S) (sF S) (aS nw x S) (sC S) i)))), .int (nI i)]) (n := 2) (rest := []) (wc := []) (w1 := []) (bytes := cX6_has) (maxL := 2) (ret := (some .boolean)) hc hw hl.1 (m_X6_has (l := l) (D := D) (E := E) (T := T) (sD (wC (wR S 0) (crF (sD S) (sF S) (aS nw x S) (sC S) i))) i hok.d (by omega)) gX6_turnWheels_X6_has rfl (by decide +kernel) (by rw [hR]; exact ⟨Nat.le_of_ble_eq_true rfl, Nat.le_of_ble_eq_true rfl⟩) [] (by decide) rfl [] rfl rfl rfl rfl (Nat.le_of_ble_eq_true rfl) dX6_turnWheels_64 ⟨Nat.zero_le _, Nat.zero_le _⟩ (fun H locs hw => ?_)
        have hw : g_W D A s [(o, .inr (6, [u0, u1, u2, .ref xa, u4, u5, u6, u7, u8, u9, u10, u11, u12, u13, u14, u15, u16, u17, u18, u19, u20, u21, u22, u23, u24, u25, u26, .ref wa, .ref la, .ref ta, .int (cS nw x S), .int (neF (sD S) (FP.i2f (sT S 1)) (aiF (sF S) (eS nw x S) (cS nw x S)) 4), .float (heF (sD S) (aiF (sF S) (eS nw x S) (cS nw x S)) 4), u33, u34, .ref sa])), (xa, .inl (E 0, 12, .inl (g_tv 0))), (wa, .inl (E 0, 3, .inl (wnF nw x S))), (la, .inl (E 1, 4, .inr (.inr (.inl (amP (sD S) (aiF (sF S) (eS nw x S) (cS nw x S)) (sF S) 4))))), (ta, .inl (E 1, 4, .inr (.inr (.inl (amP (sD S) (aiF (sF S) (eS nw x S) (g_tv 1 (lpN (sD S)))) (sF S) 4))))), (sa, .inl (E 0, 9, .inl (g_tv 1))), (pp, .inl (E 0, 29, .inl (pgF (wC (wR S 0) (crF (sD S) (sF S) (aS nw x S) (sC S) i))))), (ff, .inl (E 1, 5, .inr (.inr (.inl (amP (sD S) (aS nw x S) (fl5 S) i)))))] H locs := hw
        refine lv_if_ne (tgt := 128) hx hb dX6_turnWheels_67 (by decide) (fun c_67 => ?_) (fun c_67 => ?_)
        · skip
          have k_67 := b2i_ne c_67
          refine lv_iinc (v := nI (i + 1)) (lv' := [(3, .int (nI (i + 1))), (0, .ref o), (1, .ref pp), (2, .ref ff)]) hx hb dX6_turnWheels_128 hl (k := 3) rfl (n_inc1 rfl) (by decide) rfl (fun ls hl => ?_)
          refine lv_goto (tgt := 55) hx hb dX6_turnWheels_131 (by decide) ?_
          have hw : g_W D A s [(o, .inr (6, [u0, u1, u2, .ref xa, u4, u5, u6, u7, u8, u9, u10, u11, u12, u13, u14, u15, u16, u17, u18, u19, u20, u21, u22, u23, u24, u25, u26, .ref wa, .ref la, .ref ta, .int (cS nw x S), .int (neF (sD S) (FP.i2f (sT S 1)) (aiF (sF S) (eS nw x S) (cS nw x S)) 4), .float (heF (sD S) (aiF (sF S) (eS nw x S) (cS nw x S)) 4), u33, u34, .ref sa])), (xa, .inl (E 0, 12, .inl (g_tv 0))), (wa, .inl (E 0, 3, .inl (wnF nw x S))), (la, .inl (E 1, 4, .inr (.inr (.inl (amP (sD S) (aiF (sF S) (eS nw x S) (cS nw x S)) (sF S) 4))))), (ta, .inl (E 1, 4, .inr (.inr (.inl (amP (sD S) (aiF (sF S) (eS nw x S) (g_tv 1 (lpN (sD S)))) (sF S) 4))))), (sa, .inl (E 0, 9, .inl (g_tv 1))), (pp, .inl (E 0, 29, .inl (pgF (wC (wR S 0) (crF (sD S) (sF S) (aS nw x S) (sC S) (i + 1)))))), (ff, .inl (E 1, 5, .inr (.inr (.inl (amP (sD S) (aS nw x S) (fl5 S) (i + 1))))))] H locs := by
            have e6 : (pgF (wC (wR S 0) (crF (sD S) (sF S) (aS nw x S) (sC S) i))) = (pgF (wC (wR S 0) (crF (sD S) (sF S) (aS nw x S) (sC S) (i + 1)))) := by exact congrArg (fun z => pgF (wC (wR S 0) z)) (crS k_67)
            rw [e6] at hw
            have e7 : (amP (sD S) (aS nw x S) (fl5 S) i) = (amP (sD S) (aS nw x S) (fl5 S) (i + 1)) := by exact am_skip _ _ k_67
            rw [e7] at hw
            exact hw
          exact ih (i + 1) (by omega)   _ _ _ hw (lv_sub hl [1, 2, 3, 0] rfl)
        · skip
          have k_67 := b2i_eq c_67
          refine lv_aload_n hx hb dX6_turnWheels_70 rfl (lv_at hl 1 rfl) ?_
          refine lv_iconst (v := 3) hx hb dX6_turnWheels_71 (by decide) ?_
          refine lv_dup2_11 hx hb dX6_turnWheels_72 rfl rfl ?_
          refine g_ild hc hw 6 3 rfl rfl (by omega) (by decide) dX6_turnWheels_73 ?_
          refine W.eq (congrArg (fun z => F0 m 74 ls (.int z :: [.int 3, .ref pp])) (show ((pgF (wC (wR S 0) (crF (sD S) (sF S) (aS nw x S) (sC S) i))) 3 : Int32) = sC (wC (wR S 0) (crF (sD S) (sF S) (aS nw x S) (sC S) i)) from rfl)) ?_
          refine lv_aload_n hx hb dX6_turnWheels_74 rfl (lv_at hl 2 rfl) ?_
          refine lv_iload_n hx hb dX6_turnWheels_75 rfl (lv_at hl 3 rfl) ?_
          refine g_fld hc hw 7 i rfl rfl (by omega) (by decide) dX6_turnWheels_76 ?_
          refine W.eq (congrArg (fun z => F0 m 77 ls (.float z :: [.int (sC (wC (wR S 0) (crF (sD S) (sF S) (aS nw x S) (sC S) i))), .int 3, .ref pp])) (show ((amP (sD S) (aS nw x S) (fl5 S) i) i : UInt32) = sF S i from ((am_at _ _ _).trans (fl5_lt _ (by omega))))) ?_
          refine lv_fconst0 hx hb dX6_turnWheels_77 ?_
          refine lv_fcmp hx hb dX6_turnWheels_78 ?_
          refine lv_if_ge (tgt := 93) hx hb dX6_turnWheels_79 (by decide) (fun c_79 => ?_) (fun c_79 => ?_)
          · skip
            have k_79 := g_cgl c_79
            refine lv_aload_n hx hb dX6_turnWheels_93 rfl (lv_at hl 2 rfl) ?_
            refine lv_iload_n hx hb dX6_turnWheels_94 rfl (lv_at hl 3 rfl) ?_
            refine g_fld hc hw 7 i rfl rfl (by omega) (by decide) dX6_turnWheels_95 ?_
            refine W.eq (congrArg (fun z => F0 m 96 ls (.float z :: [.int (sC (wC (wR S 0) (crF (sD S) (sF S) (aS nw x S) (sC S) i))), .int 3, .ref pp])) (show ((amP (sD S) (aS nw x S) (fl5 S) i) i : UInt32) = sF S i from ((am_at _ _ _).trans (fl5_lt _ (by omega))))) ?_
            refine lv_fconst0 hx hb dX6_turnWheels_96 ?_
            refine lv_fcmp hx hb dX6_turnWheels_97 ?_
            refine lv_if_le (tgt := 116) hx hb dX6_turnWheels_98 (by decide) (fun c_98 => ?_) (fun c_98 => ?_)
            · skip
              have k_98 := g_clg c_98
              refine lv_iconst (v := 0) hx hb dX6_turnWheels_116 (by decide) ?_
              refine lv_iadd hx hb dX6_turnWheels_117 ?_
              refine g_ist hc hw 6 3 rfl rfl (by omega) (by decide) dX6_turnWheels_118 (fun H locs hw => ?_)
              have hw : g_W D A s [(o, .inr (6, [u0, u1, u2, .ref xa, u4, u5, u6, u7, u8, u9, u10, u11, u12, u13, u14, u15, u16, u17, u18, u19, u20, u21, u22, u23, u24, u25, u26, .ref wa, .ref la, .ref ta, .int (cS nw x S), .int (neF (sD S) (FP.i2f (sT S 1)) (aiF (sF S) (eS nw x S) (cS nw x S)) 4), .float (heF (sD S) (aiF (sF S) (eS nw x S) (cS nw x S)) 4), u33, u34, .ref sa])), (xa, .inl (E 0, 12, .inl (g_tv 0))), (wa, .inl (E 0, 3, .inl (wnF nw x S))), (la, .inl (E 1, 4, .inr (.inr (.inl (amP (sD S) (aiF (sF S) (eS nw x S) (cS nw x S)) (sF S) 4))))), (ta, .inl (E 1, 4, .inr (.inr (.inl (amP (sD S) (aiF (sF S) (eS nw x S) (g_tv 1 (lpN (sD S)))) (sF S) 4))))), (sa, .inl (E 0, 9, .inl (g_tv 1))), (pp, .inl (E 0, 29, .inl (upd (pgF (wC (wR S 0) (crF (sD S) (sF S) (aS nw x S) (sC S) i))) 3 ((sC (wC (wR S 0) (crF (sD S) (sF S) (aS nw x S) (sC S) i))) + 0)))), (ff, .inl (E 1, 5, .inr (.inr (.inl (amP (sD S) (aS nw x S) (fl5 S) i)))))] H locs := hw
              rw [pg_C] at hw
              have hw : g_W D A s [(o, .inr (6, [u0, u1, u2, .ref xa, u4, u5, u6, u7, u8, u9, u10, u11, u12, u13, u14, u15, u16, u17, u18, u19, u20, u21, u22, u23, u24, u25, u26, .ref wa, .ref la, .ref ta, .int (cS nw x S), .int (neF (sD S) (FP.i2f (sT S 1)) (aiF (sF S) (eS nw x S) (cS nw x S)) 4), .float (heF (sD S) (aiF (sF S) (eS nw x S) (cS nw x S)) 4), u33, u34, .ref sa])), (xa, .inl (E 0, 12, .inl (g_tv 0))), (wa, .inl (E 0, 3, .inl (wnF nw x S))), (la, .inl (E 1, 4, .inr (.inr (.inl (amP (sD S) (aiF (sF S) (eS nw x S) (cS nw x S)) (sF S) 4))))), (ta, .inl (E 1, 4, .inr (.inr (.inl (amP (sD S) (aiF (sF S) (eS nw x S) (g_tv 1 (lpN (sD S)))) (sF S) 4))))), (sa, .inl (E 0, 9, .inl (g_tv 1))), (pp, .inl (E 0, 29, .inl (pgF (wC (wC (wR S 0) (crF (sD S) (sF S) (aS nw x S) (sC S) i)) ((sC (wC (wR S 0) (crF (sD S) (sF S) (aS nw x S) (sC S) i))) + 0))))), (ff, .inl (E 1, 5, .inr (.inr (.inl (amP (sD S) (aS nw x S) (fl5 S) i)))))] H locs := hw
              have hw : g_W D A s [(o, .inr (6, [u0, u1, u2, .ref xa, u4, u5, u6, u7, u8, u9, u10, u11, u12, u13, u14, u15, u16, u17, u18, u19, u20, u21, u22, u23, u24, u25, u26, .ref wa, .ref la, .ref ta, .int (cS nw x S), .int (neF (sD S) (FP.i2f (sT S 1)) (aiF (sF S) (eS nw x S) (cS nw x S)) 4), .float (heF (sD S) (aiF (sF S) (eS nw x S) (cS nw x S)) 4), u33, u34, .ref sa])), (xa, .inl (E 0, 12, .inl (g_tv 0))), (wa, .inl (E 0, 3, .inl (wnF nw x S))), (la, .inl (E 1, 4, .inr (.inr (.inl (amP (sD S) (aiF (sF S) (eS nw x S) (cS nw x S)) (sF S) 4))))), (ta, .inl (E 1, 4, .inr (.inr (.inl (amP (sD S) (aiF (sF S) (eS nw x S) (g_tv 1 (lpN (sD S)))) (sF S) 4))))), (sa, .inl (E 0, 9, .inl (g_tv 1))), (pp, .inl (E 0, 29, .inl (pgF (wC (wR S 0) (crF (sD S) (sF S) (aS nw x S) (sC S) i + 0))))), (ff, .inl (E 1, 5, .inr (.inr (.inl (amP (sD S) (aS nw x S) (fl5 S) i)))))] H locs := hw
              refine lv_aload_n hx hb dX6_turnWheels_119 rfl (lv_at hl 2 rfl) ?_
              refine lv_iload_n hx hb dX6_turnWheels_120 rfl (lv_at hl 3 rfl) ?_
              refine lv_aload_n hx hb dX6_turnWheels_121 rfl (lv_at hl 0 rfl) ?_
              refine g_get (TT := TX6) hc hw inX6_turnWheels_X6 0 28 2 rfl rfl (by decide) rfl rfl dX6_turnWheels_122 ?_
              refine lv_iload_n hx hb dX6_turnWheels_125 rfl (lv_at hl 3 rfl) ?_
              refine g_fld hc hw 3 i rfl rfl (by omega) (by decide) dX6_turnWheels_126 ?_
              refine W.eq (congrArg (fun z => F0 m 127 ls (.float z :: [.int (nI i), .ref ff])) (show ((amP (sD S) (aiF (sF S) (eS nw x S) (cS nw x S)) (sF S) 4) i : UInt32) = aS nw x S i from (am_live (aS nw x S) (sF S) k_67 (by omega)).symm)) ?_
              refine g_fst hc hw 7 i rfl rfl (by omega) (by decide) dX6_turnWheels_127 (fun H locs hw => ?_)
              have hw : g_W D A s [(o, .inr (6, [u0, u1, u2, .ref xa, u4, u5, u6, u7, u8, u9, u10, u11, u12, u13, u14, u15, u16, u17, u18, u19, u20, u21, u22, u23, u24, u25, u26, .ref wa, .ref la, .ref ta, .int (cS nw x S), .int (neF (sD S) (FP.i2f (sT S 1)) (aiF (sF S) (eS nw x S) (cS nw x S)) 4), .float (heF (sD S) (aiF (sF S) (eS nw x S) (cS nw x S)) 4), u33, u34, .ref sa])), (xa, .inl (E 0, 12, .inl (g_tv 0))), (wa, .inl (E 0, 3, .inl (wnF nw x S))), (la, .inl (E 1, 4, .inr (.inr (.inl (amP (sD S) (aiF (sF S) (eS nw x S) (cS nw x S)) (sF S) 4))))), (ta, .inl (E 1, 4, .inr (.inr (.inl (amP (sD S) (aiF (sF S) (eS nw x S) (g_tv 1 (lpN (sD S)))) (sF S) 4))))), (sa, .inl (E 0, 9, .inl (g_tv 1))), (pp, .inl (E 0, 29, .inl (pgF (wC (wR S 0) (crF (sD S) (sF S) (aS nw x S) (sC S) i + 0))))), (ff, .inl (E 1, 5, .inr (.inr (.inl (vf_upd (amP (sD S) (aS nw x S) (fl5 S) i) i (aS nw x S i))))))] H locs := hw
              refine lv_iinc (v := nI (i + 1)) (lv' := [(3, .int (nI (i + 1))), (0, .ref o), (1, .ref pp), (2, .ref ff)]) hx hb dX6_turnWheels_128 hl (k := 3) rfl (n_inc1 rfl) (by decide) rfl (fun ls hl => ?_)
              refine lv_goto (tgt := 55) hx hb dX6_turnWheels_131 (by decide) ?_
              have hw : g_W D A s [(o, .inr (6, [u0, u1, u2, .ref xa, u4, u5, u6, u7, u8, u9, u10, u11, u12, u13, u14, u15, u16, u17, u18, u19, u20, u21, u22, u23, u24, u25, u26, .ref wa, .ref la, .ref ta, .int (cS nw x S), .int (neF (sD S) (FP.i2f (sT S 1)) (aiF (sF S) (eS nw x S) (cS nw x S)) 4), .float (heF (sD S) (aiF (sF S) (eS nw x S) (cS nw x S)) 4), u33, u34, .ref sa])), (xa, .inl (E 0, 12, .inl (g_tv 0))), (wa, .inl (E 0, 3, .inl (wnF nw x S))), (la, .inl (E 1, 4, .inr (.inr (.inl (amP (sD S) (aiF (sF S) (eS nw x S) (cS nw x S)) (sF S) 4))))), (ta, .inl (E 1, 4, .inr (.inr (.inl (amP (sD S) (aiF (sF S) (eS nw x S) (g_tv 1 (lpN (sD S)))) (sF S) 4))))), (sa, .inl (E 0, 9, .inl (g_tv 1))), (pp, .inl (E 0, 29, .inl (pgF (wC (wR S 0) (crF (sD S) (sF S) (aS nw x S) (sC S) (i + 1)))))), (ff, .inl (E 1, 5, .inr (.inr (.inl (amP (sD S) (aS nw x S) (fl5 S) (i + 1))))))] H locs := by
                have e6 : (pgF (wC (wR S 0) (crF (sD S) (sF S) (aS nw x S) (sC S) i + 0))) = (pgF (wC (wR S 0) (crF (sD S) (sF S) (aS nw x S) (sC S) (i + 1)))) := by exact congrArg (fun z => pgF (wC (wR S 0) z)) (crB0 k_67 (by simp [k_79, k_98]))
                rw [e6] at hw
                have e7 : (vf_upd (amP (sD S) (aS nw x S) (fl5 S) i) i (aS nw x S i)) = (amP (sD S) (aS nw x S) (fl5 S) (i + 1)) := by exact am_step _ k_67 rfl
                rw [e7] at hw
                exact hw
              exact ih (i + 1) (by omega)   _ _ _ hw (lv_sub hl [1, 2, 3, 0] rfl)
            · skip
              have k_98 := g_clt c_98
              refine lv_aload_n hx hb dX6_turnWheels_101 rfl (lv_at hl 0 rfl) ?_
              refine g_get (TT := TX6) hc hw inX6_turnWheels_X6 0 28 2 rfl rfl (by decide) rfl rfl dX6_turnWheels_102 ?_
              refine lv_iload_n hx hb dX6_turnWheels_105 rfl (lv_at hl 3 rfl) ?_
              refine g_fld hc hw 3 i rfl rfl (by omega) (by decide) dX6_turnWheels_106 ?_
              refine W.eq (congrArg (fun z => F0 m 107 ls (.float z :: [.int (sC (wC (wR S 0) (crF (sD S) (sF S) (aS nw x S) (sC S) i))), .int 3, .ref pp])) (show ((amP (sD S) (aiF (sF S) (eS nw x S) (cS nw x S)) (sF S) 4) i : UInt32) = aS nw x S i from (am_live (aS nw x S) (sF S) k_67 (by omega)).symm)) ?_
              refine lv_fconst0 hx hb dX6_turnWheels_107 ?_
              refine lv_fcmp hx hb dX6_turnWheels_108 ?_
              refine lv_if_ge (tgt := 116) hx hb dX6_turnWheels_109 (by decide) (fun c_109 => ?_) (fun c_109 => ?_)
              · skip
                have k_109 := g_cgl c_109
                refine lv_iconst (v := 0) hx hb dX6_turnWheels_116 (by decide) ?_
                refine lv_iadd hx hb dX6_turnWheels_117 ?_
                refine g_ist hc hw 6 3 rfl rfl (by omega) (by decide) dX6_turnWheels_118 (fun H locs hw => ?_)
                have hw : g_W D A s [(o, .inr (6, [u0, u1, u2, .ref xa, u4, u5, u6, u7, u8, u9, u10, u11, u12, u13, u14, u15, u16, u17, u18, u19, u20, u21, u22, u23, u24, u25, u26, .ref wa, .ref la, .ref ta, .int (cS nw x S), .int (neF (sD S) (FP.i2f (sT S 1)) (aiF (sF S) (eS nw x S) (cS nw x S)) 4), .float (heF (sD S) (aiF (sF S) (eS nw x S) (cS nw x S)) 4), u33, u34, .ref sa])), (xa, .inl (E 0, 12, .inl (g_tv 0))), (wa, .inl (E 0, 3, .inl (wnF nw x S))), (la, .inl (E 1, 4, .inr (.inr (.inl (amP (sD S) (aiF (sF S) (eS nw x S) (cS nw x S)) (sF S) 4))))), (ta, .inl (E 1, 4, .inr (.inr (.inl (amP (sD S) (aiF (sF S) (eS nw x S) (g_tv 1 (lpN (sD S)))) (sF S) 4))))), (sa, .inl (E 0, 9, .inl (g_tv 1))), (pp, .inl (E 0, 29, .inl (upd (pgF (wC (wR S 0) (crF (sD S) (sF S) (aS nw x S) (sC S) i))) 3 ((sC (wC (wR S 0) (crF (sD S) (sF S) (aS nw x S) (sC S) i))) + 0)))), (ff, .inl (E 1, 5, .inr (.inr (.inl (amP (sD S) (aS nw x S) (fl5 S) i)))))] H locs := hw
                rw [pg_C] at hw
                have hw : g_W D A s [(o, .inr (6, [u0, u1, u2, .ref xa, u4, u5, u6, u7, u8, u9, u10, u11, u12, u13, u14, u15, u16, u17, u18, u19, u20, u21, u22, u23, u24, u25, u26, .ref wa, .ref la, .ref ta, .int (cS nw x S), .int (neF (sD S) (FP.i2f (sT S 1)) (aiF (sF S) (eS nw x S) (cS nw x S)) 4), .float (heF (sD S) (aiF (sF S) (eS nw x S) (cS nw x S)) 4), u33, u34, .ref sa])), (xa, .inl (E 0, 12, .inl (g_tv 0))), (wa, .inl (E 0, 3, .inl (wnF nw x S))), (la, .inl (E 1, 4, .inr (.inr (.inl (amP (sD S) (aiF (sF S) (eS nw x S) (cS nw x S)) (sF S) 4))))), (ta, .inl (E 1, 4, .inr (.inr (.inl (amP (sD S) (aiF (sF S) (eS nw x S) (g_tv 1 (lpN (sD S)))) (sF S) 4))))), (sa, .inl (E 0, 9, .inl (g_tv 1))), (pp, .inl (E 0, 29, .inl (pgF (wC (wC (wR S 0) (crF (sD S) (sF S) (aS nw x S) (sC S) i)) ((sC (wC (wR S 0) (crF (sD S) (sF S) (aS nw x S) (sC S) i))) + 0))))), (ff, .inl (E 1, 5, .inr (.inr (.inl (amP (sD S) (aS nw x S) (fl5 S) i)))))] H locs := hw
                have hw : g_W D A s [(o, .inr (6, [u0, u1, u2, .ref xa, u4, u5, u6, u7, u8, u9, u10, u11, u12, u13, u14, u15, u16, u17, u18, u19, u20, u21, u22, u23, u24, u25, u26, .ref wa, .ref la, .ref ta, .int (cS nw x S), .int (neF (sD S) (FP.i2f (sT S 1)) (aiF (sF S) (eS nw x S) (cS nw x S)) 4), .float (heF (sD S) (aiF (sF S) (eS nw x S) (cS nw x S)) 4), u33, u34, .ref sa])), (xa, .inl (E 0, 12, .inl (g_tv 0))), (wa, .inl (E 0, 3, .inl (wnF nw x S))), (la, .inl (E 1, 4, .inr (.inr (.inl (amP (sD S) (aiF (sF S) (eS nw x S) (cS nw x S)) (sF S) 4))))), (ta, .inl (E 1, 4, .inr (.inr (.inl (amP (sD S) (aiF (sF S) (eS nw x S) (g_tv 1 (lpN (sD S)))) (sF S) 4))))), (sa, .inl (E 0, 9, .inl (g_tv 1))), (pp, .inl (E 0, 29, .inl (pgF (wC (wR S 0) (crF (sD S) (sF S) (aS nw x S) (sC S) i + 0))))), (ff, .inl (E 1, 5, .inr (.inr (.inl (amP (sD S) (aS nw x S) (fl5 S) i)))))] H locs := hw
                refine lv_aload_n hx hb dX6_turnWheels_119 rfl (lv_at hl 2 rfl) ?_
                refine lv_iload_n hx hb dX6_turnWheels_120 rfl (lv_at hl 3 rfl) ?_
                refine lv_aload_n hx hb dX6_turnWheels_121 rfl (lv_at hl 0 rfl) ?_
                refine g_get (TT := TX6) hc hw inX6_turnWheels_X6 0 28 2 rfl rfl (by decide) rfl rfl dX6_turnWheels_122 ?_
                refine lv_iload_n hx hb dX6_turnWheels_125 rfl (lv_at hl 3 rfl) ?_
                refine g_fld hc hw 3 i rfl rfl (by omega) (by decide) dX6_turnWheels_126 ?_
                refine W.eq (congrArg (fun z => F0 m 127 ls (.float z :: [.int (nI i), .ref ff])) (show ((amP (sD S) (aiF (sF S) (eS nw x S) (cS nw x S)) (sF S) 4) i : UInt32) = aS nw x S i from (am_live (aS nw x S) (sF S) k_67 (by omega)).symm)) ?_
                refine g_fst hc hw 7 i rfl rfl (by omega) (by decide) dX6_turnWheels_127 (fun H locs hw => ?_)
                have hw : g_W D A s [(o, .inr (6, [u0, u1, u2, .ref xa, u4, u5, u6, u7, u8, u9, u10, u11, u12, u13, u14, u15, u16, u17, u18, u19, u20, u21, u22, u23, u24, u25, u26, .ref wa, .ref la, .ref ta, .int (cS nw x S), .int (neF (sD S) (FP.i2f (sT S 1)) (aiF (sF S) (eS nw x S) (cS nw x S)) 4), .float (heF (sD S) (aiF (sF S) (eS nw x S) (cS nw x S)) 4), u33, u34, .ref sa])), (xa, .inl (E 0, 12, .inl (g_tv 0))), (wa, .inl (E 0, 3, .inl (wnF nw x S))), (la, .inl (E 1, 4, .inr (.inr (.inl (amP (sD S) (aiF (sF S) (eS nw x S) (cS nw x S)) (sF S) 4))))), (ta, .inl (E 1, 4, .inr (.inr (.inl (amP (sD S) (aiF (sF S) (eS nw x S) (g_tv 1 (lpN (sD S)))) (sF S) 4))))), (sa, .inl (E 0, 9, .inl (g_tv 1))), (pp, .inl (E 0, 29, .inl (pgF (wC (wR S 0) (crF (sD S) (sF S) (aS nw x S) (sC S) i + 0))))), (ff, .inl (E 1, 5, .inr (.inr (.inl (vf_upd (amP (sD S) (aS nw x S) (fl5 S) i) i (aS nw x S i))))))] H locs := hw
                refine lv_iinc (v := nI (i + 1)) (lv' := [(3, .int (nI (i + 1))), (0, .ref o), (1, .ref pp), (2, .ref ff)]) hx hb dX6_turnWheels_128 hl (k := 3) rfl (n_inc1 rfl) (by decide) rfl (fun ls hl => ?_)
                refine lv_goto (tgt := 55) hx hb dX6_turnWheels_131 (by decide) ?_
                have hw : g_W D A s [(o, .inr (6, [u0, u1, u2, .ref xa, u4, u5, u6, u7, u8, u9, u10, u11, u12, u13, u14, u15, u16, u17, u18, u19, u20, u21, u22, u23, u24, u25, u26, .ref wa, .ref la, .ref ta, .int (cS nw x S), .int (neF (sD S) (FP.i2f (sT S 1)) (aiF (sF S) (eS nw x S) (cS nw x S)) 4), .float (heF (sD S) (aiF (sF S) (eS nw x S) (cS nw x S)) 4), u33, u34, .ref sa])), (xa, .inl (E 0, 12, .inl (g_tv 0))), (wa, .inl (E 0, 3, .inl (wnF nw x S))), (la, .inl (E 1, 4, .inr (.inr (.inl (amP (sD S) (aiF (sF S) (eS nw x S) (cS nw x S)) (sF S) 4))))), (ta, .inl (E 1, 4, .inr (.inr (.inl (amP (sD S) (aiF (sF S) (eS nw x S) (g_tv 1 (lpN (sD S)))) (sF S) 4))))), (sa, .inl (E 0, 9, .inl (g_tv 1))), (pp, .inl (E 0, 29, .inl (pgF (wC (wR S 0) (crF (sD S) (sF S) (aS nw x S) (sC S) (i + 1)))))), (ff, .inl (E 1, 5, .inr (.inr (.inl (amP (sD S) (aS nw x S) (fl5 S) (i + 1))))))] H locs := by
                  have e6 : (pgF (wC (wR S 0) (crF (sD S) (sF S) (aS nw x S) (sC S) i + 0))) = (pgF (wC (wR S 0) (crF (sD S) (sF S) (aS nw x S) (sC S) (i + 1)))) := by exact congrArg (fun z => pgF (wC (wR S 0) z)) (crB0 k_67 (by simp [k_79, k_98, k_109]))
                  rw [e6] at hw
                  have e7 : (vf_upd (amP (sD S) (aS nw x S) (fl5 S) i) i (aS nw x S i)) = (amP (sD S) (aS nw x S) (fl5 S) (i + 1)) := by exact am_step _ k_67 rfl
                  rw [e7] at hw
                  exact hw
                exact ih (i + 1) (by omega)   _ _ _ hw (lv_sub hl [1, 2, 3, 0] rfl)
              · skip
                have k_109 := g_cgt c_109
                refine lv_iconst (v := 1) hx hb dX6_turnWheels_112 (by decide) ?_
                refine lv_goto (tgt := 117) hx hb dX6_turnWheels_113 (by decide) ?_
                refine lv_iadd hx hb dX6_turnWheels_117 ?_
                refine g_ist hc hw 6 3 rfl rfl (by omega) (by decide) dX6_turnWheels_118 (fun H locs hw => ?_)
                have hw : g_W D A s [(o, .inr (6, [u0, u1, u2, .ref xa, u4, u5, u6, u7, u8, u9, u10, u11, u12, u13, u14, u15, u16, u17, u18, u19, u20, u21, u22, u23, u24, u25, u26, .ref wa, .ref la, .ref ta, .int (cS nw x S), .int (neF (sD S) (FP.i2f (sT S 1)) (aiF (sF S) (eS nw x S) (cS nw x S)) 4), .float (heF (sD S) (aiF (sF S) (eS nw x S) (cS nw x S)) 4), u33, u34, .ref sa])), (xa, .inl (E 0, 12, .inl (g_tv 0))), (wa, .inl (E 0, 3, .inl (wnF nw x S))), (la, .inl (E 1, 4, .inr (.inr (.inl (amP (sD S) (aiF (sF S) (eS nw x S) (cS nw x S)) (sF S) 4))))), (ta, .inl (E 1, 4, .inr (.inr (.inl (amP (sD S) (aiF (sF S) (eS nw x S) (g_tv 1 (lpN (sD S)))) (sF S) 4))))), (sa, .inl (E 0, 9, .inl (g_tv 1))), (pp, .inl (E 0, 29, .inl (upd (pgF (wC (wR S 0) (crF (sD S) (sF S) (aS nw x S) (sC S) i))) 3 ((sC (wC (wR S 0) (crF (sD S) (sF S) (aS nw x S) (sC S) i))) + 1)))), (ff, .inl (E 1, 5, .inr (.inr (.inl (amP (sD S) (aS nw x S) (fl5 S) i)))))] H locs := hw
                rw [pg_C] at hw
                have hw : g_W D A s [(o, .inr (6, [u0, u1, u2, .ref xa, u4, u5, u6, u7, u8, u9, u10, u11, u12, u13, u14, u15, u16, u17, u18, u19, u20, u21, u22, u23, u24, u25, u26, .ref wa, .ref la, .ref ta, .int (cS nw x S), .int (neF (sD S) (FP.i2f (sT S 1)) (aiF (sF S) (eS nw x S) (cS nw x S)) 4), .float (heF (sD S) (aiF (sF S) (eS nw x S) (cS nw x S)) 4), u33, u34, .ref sa])), (xa, .inl (E 0, 12, .inl (g_tv 0))), (wa, .inl (E 0, 3, .inl (wnF nw x S))), (la, .inl (E 1, 4, .inr (.inr (.inl (amP (sD S) (aiF (sF S) (eS nw x S) (cS nw x S)) (sF S) 4))))), (ta, .inl (E 1, 4, .inr (.inr (.inl (amP (sD S) (aiF (sF S) (eS nw x S) (g_tv 1 (lpN (sD S)))) (sF S) 4))))), (sa, .inl (E 0, 9, .inl (g_tv 1))), (pp, .inl (E 0, 29, .inl (pgF (wC (wC (wR S 0) (crF (sD S) (sF S) (aS nw x S) (sC S) i)) ((sC (wC (wR S 0) (crF (sD S) (sF S) (aS nw x S) (sC S) i))) + 1))))), (ff, .inl (E 1, 5, .inr (.inr (.inl (amP (sD S) (aS nw x S) (fl5 S) i)))))] H locs := hw
                have hw : g_W D A s [(o, .inr (6, [u0, u1, u2, .ref xa, u4, u5, u6, u7, u8, u9, u10, u11, u12, u13, u14, u15, u16, u17, u18, u19, u20, u21, u22, u23, u24, u25, u26, .ref wa, .ref la, .ref ta, .int (cS nw x S), .int (neF (sD S) (FP.i2f (sT S 1)) (aiF (sF S) (eS nw x S) (cS nw x S)) 4), .float (heF (sD S) (aiF (sF S) (eS nw x S) (cS nw x S)) 4), u33, u34, .ref sa])), (xa, .inl (E 0, 12, .inl (g_tv 0))), (wa, .inl (E 0, 3, .inl (wnF nw x S))), (la, .inl (E 1, 4, .inr (.inr (.inl (amP (sD S) (aiF (sF S) (eS nw x S) (cS nw x S)) (sF S) 4))))), (ta, .inl (E 1, 4, .inr (.inr (.inl (amP (sD S) (aiF (sF S) (eS nw x S) (g_tv 1 (lpN (sD S)))) (sF S) 4))))), (sa, .inl (E 0, 9, .inl (g_tv 1))), (pp, .inl (E 0, 29, .inl (pgF (wC (wR S 0) (crF (sD S) (sF S) (aS nw x S) (sC S) i + 1))))), (ff, .inl (E 1, 5, .inr (.inr (.inl (amP (sD S) (aS nw x S) (fl5 S) i)))))] H locs := hw
                refine lv_aload_n hx hb dX6_turnWheels_119 rfl (lv_at hl 2 rfl) ?_
                refine lv_iload_n hx hb dX6_turnWheels_120 rfl (lv_at hl 3 rfl) ?_
                refine lv_aload_n hx hb dX6_turnWheels_121 rfl (lv_at hl 0 rfl) ?_
                refine g_get (TT := TX6) hc hw inX6_turnWheels_X6 0 28 2 rfl rfl (by decide) rfl rfl dX6_turnWheels_122 ?_
                refine lv_iload_n hx hb dX6_turnWheels_125 rfl (lv_at hl 3 rfl) ?_
                refine g_fld hc hw 3 i rfl rfl (by omega) (by decide) dX6_turnWheels_126 ?_
                refine W.eq (congrArg (fun z => F0 m 127 ls (.float z :: [.int (nI i), .ref ff])) (show ((amP (sD S) (aiF (sF S) (eS nw x S) (cS nw x S)) (sF S) 4) i : UInt32) = aS nw x S i from (am_live (aS nw x S) (sF S) k_67 (by omega)).symm)) ?_
                refine g_fst hc hw 7 i rfl rfl (by omega) (by decide) dX6_turnWheels_127 (fun H locs hw => ?_)
                have hw : g_W D A s [(o, .inr (6, [u0, u1, u2, .ref xa, u4, u5, u6, u7, u8, u9, u10, u11, u12, u13, u14, u15, u16, u17, u18, u19, u20, u21, u22, u23, u24, u25, u26, .ref wa, .ref la, .ref ta, .int (cS nw x S), .int (neF (sD S) (FP.i2f (sT S 1)) (aiF (sF S) (eS nw x S) (cS nw x S)) 4), .float (heF (sD S) (aiF (sF S) (eS nw x S) (cS nw x S)) 4), u33, u34, .ref sa])), (xa, .inl (E 0, 12, .inl (g_tv 0))), (wa, .inl (E 0, 3, .inl (wnF nw x S))), (la, .inl (E 1, 4, .inr (.inr (.inl (amP (sD S) (aiF (sF S) (eS nw x S) (cS nw x S)) (sF S) 4))))), (ta, .inl (E 1, 4, .inr (.inr (.inl (amP (sD S) (aiF (sF S) (eS nw x S) (g_tv 1 (lpN (sD S)))) (sF S) 4))))), (sa, .inl (E 0, 9, .inl (g_tv 1))), (pp, .inl (E 0, 29, .inl (pgF (wC (wR S 0) (crF (sD S) (sF S) (aS nw x S) (sC S) i + 1))))), (ff, .inl (E 1, 5, .inr (.inr (.inl (vf_upd (amP (sD S) (aS nw x S) (fl5 S) i) i (aS nw x S i))))))] H locs := hw
                refine lv_iinc (v := nI (i + 1)) (lv' := [(3, .int (nI (i + 1))), (0, .ref o), (1, .ref pp), (2, .ref ff)]) hx hb dX6_turnWheels_128 hl (k := 3) rfl (n_inc1 rfl) (by decide) rfl (fun ls hl => ?_)
                refine lv_goto (tgt := 55) hx hb dX6_turnWheels_131 (by decide) ?_
                have hw : g_W D A s [(o, .inr (6, [u0, u1, u2, .ref xa, u4, u5, u6, u7, u8, u9, u10, u11, u12, u13, u14, u15, u16, u17, u18, u19, u20, u21, u22, u23, u24, u25, u26, .ref wa, .ref la, .ref ta, .int (cS nw x S), .int (neF (sD S) (FP.i2f (sT S 1)) (aiF (sF S) (eS nw x S) (cS nw x S)) 4), .float (heF (sD S) (aiF (sF S) (eS nw x S) (cS nw x S)) 4), u33, u34, .ref sa])), (xa, .inl (E 0, 12, .inl (g_tv 0))), (wa, .inl (E 0, 3, .inl (wnF nw x S))), (la, .inl (E 1, 4, .inr (.inr (.inl (amP (sD S) (aiF (sF S) (eS nw x S) (cS nw x S)) (sF S) 4))))), (ta, .inl (E 1, 4, .inr (.inr (.inl (amP (sD S) (aiF (sF S) (eS nw x S) (g_tv 1 (lpN (sD S)))) (sF S) 4))))), (sa, .inl (E 0, 9, .inl (g_tv 1))), (pp, .inl (E 0, 29, .inl (pgF (wC (wR S 0) (crF (sD S) (sF S) (aS nw x S) (sC S) (i + 1)))))), (ff, .inl (E 1, 5, .inr (.inr (.inl (amP (sD S) (aS nw x S) (fl5 S) (i + 1))))))] H locs := by
                  have e6 : (pgF (wC (wR S 0) (crF (sD S) (sF S) (aS nw x S) (sC S) i + 1))) = (pgF (wC (wR S 0) (crF (sD S) (sF S) (aS nw x S) (sC S) (i + 1)))) := by exact congrArg (fun z => pgF (wC (wR S 0) z)) (crB1 k_67 (by simp [k_79, k_98, k_109]))
                  rw [e6] at hw
                  have e7 : (vf_upd (amP (sD S) (aS nw x S) (fl5 S) i) i (aS nw x S i)) = (amP (sD S) (aS nw x S) (fl5 S) (i + 1)) := by exact am_step _ k_67 rfl
                  rw [e7] at hw
                  exact hw
                exact ih (i + 1) (by omega)   _ _ _ hw (lv_sub hl [1, 2, 3, 0] rfl)
          · skip
            have k_79 := g_cgt c_79
            refine lv_aload_n hx hb dX6_turnWheels_82 rfl (lv_at hl 0 rfl) ?_
            refine g_get (TT := TX6) hc hw inX6_turnWheels_X6 0 28 2 rfl rfl (by decide) rfl rfl dX6_turnWheels_83 ?_
            refine lv_iload_n hx hb dX6_turnWheels_86 rfl (lv_at hl 3 rfl) ?_
            refine g_fld hc hw 3 i rfl rfl (by omega) (by decide) dX6_turnWheels_87 ?_
            refine W.eq (congrArg (fun z => F0 m 88 ls (.float z :: [.int (sC (wC (wR S 0) (crF (sD S) (sF S) (aS nw x S) (sC S) i))), .int 3, .ref pp])) (show ((amP (sD S) (aiF (sF S) (eS nw x S) (cS nw x S)) (sF S) 4) i : UInt32) = aS nw x S i from (am_live (aS nw x S) (sF S) k_67 (by omega)).symm)) ?_
            refine lv_fconst0 hx hb dX6_turnWheels_88 ?_
            refine lv_fcmp hx hb dX6_turnWheels_89 ?_
            refine lv_if_gt (tgt := 112) hx hb dX6_turnWheels_90 (by decide) (fun c_90 => ?_) (fun c_90 => ?_)
            · skip
              have k_90 := g_clT2 c_90
              refine lv_iconst (v := 1) hx hb dX6_turnWheels_112 (by decide) ?_
              refine lv_goto (tgt := 117) hx hb dX6_turnWheels_113 (by decide) ?_
              refine lv_iadd hx hb dX6_turnWheels_117 ?_
              refine g_ist hc hw 6 3 rfl rfl (by omega) (by decide) dX6_turnWheels_118 (fun H locs hw => ?_)
              have hw : g_W D A s [(o, .inr (6, [u0, u1, u2, .ref xa, u4, u5, u6, u7, u8, u9, u10, u11, u12, u13, u14, u15, u16, u17, u18, u19, u20, u21, u22, u23, u24, u25, u26, .ref wa, .ref la, .ref ta, .int (cS nw x S), .int (neF (sD S) (FP.i2f (sT S 1)) (aiF (sF S) (eS nw x S) (cS nw x S)) 4), .float (heF (sD S) (aiF (sF S) (eS nw x S) (cS nw x S)) 4), u33, u34, .ref sa])), (xa, .inl (E 0, 12, .inl (g_tv 0))), (wa, .inl (E 0, 3, .inl (wnF nw x S))), (la, .inl (E 1, 4, .inr (.inr (.inl (amP (sD S) (aiF (sF S) (eS nw x S) (cS nw x S)) (sF S) 4))))), (ta, .inl (E 1, 4, .inr (.inr (.inl (amP (sD S) (aiF (sF S) (eS nw x S) (g_tv 1 (lpN (sD S)))) (sF S) 4))))), (sa, .inl (E 0, 9, .inl (g_tv 1))), (pp, .inl (E 0, 29, .inl (upd (pgF (wC (wR S 0) (crF (sD S) (sF S) (aS nw x S) (sC S) i))) 3 ((sC (wC (wR S 0) (crF (sD S) (sF S) (aS nw x S) (sC S) i))) + 1)))), (ff, .inl (E 1, 5, .inr (.inr (.inl (amP (sD S) (aS nw x S) (fl5 S) i)))))] H locs := hw
              rw [pg_C] at hw
              have hw : g_W D A s [(o, .inr (6, [u0, u1, u2, .ref xa, u4, u5, u6, u7, u8, u9, u10, u11, u12, u13, u14, u15, u16, u17, u18, u19, u20, u21, u22, u23, u24, u25, u26, .ref wa, .ref la, .ref ta, .int (cS nw x S), .int (neF (sD S) (FP.i2f (sT S 1)) (aiF (sF S) (eS nw x S) (cS nw x S)) 4), .float (heF (sD S) (aiF (sF S) (eS nw x S) (cS nw x S)) 4), u33, u34, .ref sa])), (xa, .inl (E 0, 12, .inl (g_tv 0))), (wa, .inl (E 0, 3, .inl (wnF nw x S))), (la, .inl (E 1, 4, .inr (.inr (.inl (amP (sD S) (aiF (sF S) (eS nw x S) (cS nw x S)) (sF S) 4))))), (ta, .inl (E 1, 4, .inr (.inr (.inl (amP (sD S) (aiF (sF S) (eS nw x S) (g_tv 1 (lpN (sD S)))) (sF S) 4))))), (sa, .inl (E 0, 9, .inl (g_tv 1))), (pp, .inl (E 0, 29, .inl (pgF (wC (wC (wR S 0) (crF (sD S) (sF S) (aS nw x S) (sC S) i)) ((sC (wC (wR S 0) (crF (sD S) (sF S) (aS nw x S) (sC S) i))) + 1))))), (ff, .inl (E 1, 5, .inr (.inr (.inl (amP (sD S) (aS nw x S) (fl5 S) i)))))] H locs := hw
              have hw : g_W D A s [(o, .inr (6, [u0, u1, u2, .ref xa, u4, u5, u6, u7, u8, u9, u10, u11, u12, u13, u14, u15, u16, u17, u18, u19, u20, u21, u22, u23, u24, u25, u26, .ref wa, .ref la, .ref ta, .int (cS nw x S), .int (neF (sD S) (FP.i2f (sT S 1)) (aiF (sF S) (eS nw x S) (cS nw x S)) 4), .float (heF (sD S) (aiF (sF S) (eS nw x S) (cS nw x S)) 4), u33, u34, .ref sa])), (xa, .inl (E 0, 12, .inl (g_tv 0))), (wa, .inl (E 0, 3, .inl (wnF nw x S))), (la, .inl (E 1, 4, .inr (.inr (.inl (amP (sD S) (aiF (sF S) (eS nw x S) (cS nw x S)) (sF S) 4))))), (ta, .inl (E 1, 4, .inr (.inr (.inl (amP (sD S) (aiF (sF S) (eS nw x S) (g_tv 1 (lpN (sD S)))) (sF S) 4))))), (sa, .inl (E 0, 9, .inl (g_tv 1))), (pp, .inl (E 0, 29, .inl (pgF (wC (wR S 0) (crF (sD S) (sF S) (aS nw x S) (sC S) i + 1))))), (ff, .inl (E 1, 5, .inr (.inr (.inl (amP (sD S) (aS nw x S) (fl5 S) i)))))] H locs := hw
              refine lv_aload_n hx hb dX6_turnWheels_119 rfl (lv_at hl 2 rfl) ?_
              refine lv_iload_n hx hb dX6_turnWheels_120 rfl (lv_at hl 3 rfl) ?_
              refine lv_aload_n hx hb dX6_turnWheels_121 rfl (lv_at hl 0 rfl) ?_
              refine g_get (TT := TX6) hc hw inX6_turnWheels_X6 0 28 2 rfl rfl (by decide) rfl rfl dX6_turnWheels_122 ?_
              refine lv_iload_n hx hb dX6_turnWheels_125 rfl (lv_at hl 3 rfl) ?_
              refine g_fld hc hw 3 i rfl rfl (by omega) (by decide) dX6_turnWheels_126 ?_
              refine W.eq (congrArg (fun z => F0 m 127 ls (.float z :: [.int (nI i), .ref ff])) (show ((amP (sD S) (aiF (sF S) (eS nw x S) (cS nw x S)) (sF S) 4) i : UInt32) = aS nw x S i from (am_live (aS nw x S) (sF S) k_67 (by omega)).symm)) ?_
              refine g_fst hc hw 7 i rfl rfl (by omega) (by decide) dX6_turnWheels_127 (fun H locs hw => ?_)
              have hw : g_W D A s [(o, .inr (6, [u0, u1, u2, .ref xa, u4, u5, u6, u7, u8, u9, u10, u11, u12, u13, u14, u15, u16, u17, u18, u19, u20, u21, u22, u23, u24, u25, u26, .ref wa, .ref la, .ref ta, .int (cS nw x S), .int (neF (sD S) (FP.i2f (sT S 1)) (aiF (sF S) (eS nw x S) (cS nw x S)) 4), .float (heF (sD S) (aiF (sF S) (eS nw x S) (cS nw x S)) 4), u33, u34, .ref sa])), (xa, .inl (E 0, 12, .inl (g_tv 0))), (wa, .inl (E 0, 3, .inl (wnF nw x S))), (la, .inl (E 1, 4, .inr (.inr (.inl (amP (sD S) (aiF (sF S) (eS nw x S) (cS nw x S)) (sF S) 4))))), (ta, .inl (E 1, 4, .inr (.inr (.inl (amP (sD S) (aiF (sF S) (eS nw x S) (g_tv 1 (lpN (sD S)))) (sF S) 4))))), (sa, .inl (E 0, 9, .inl (g_tv 1))), (pp, .inl (E 0, 29, .inl (pgF (wC (wR S 0) (crF (sD S) (sF S) (aS nw x S) (sC S) i + 1))))), (ff, .inl (E 1, 5, .inr (.inr (.inl (vf_upd (amP (sD S) (aS nw x S) (fl5 S) i) i (aS nw x S i))))))] H locs := hw
              refine lv_iinc (v := nI (i + 1)) (lv' := [(3, .int (nI (i + 1))), (0, .ref o), (1, .ref pp), (2, .ref ff)]) hx hb dX6_turnWheels_128 hl (k := 3) rfl (n_inc1 rfl) (by decide) rfl (fun ls hl => ?_)
              refine lv_goto (tgt := 55) hx hb dX6_turnWheels_131 (by decide) ?_
              have hw : g_W D A s [(o, .inr (6, [u0, u1, u2, .ref xa, u4, u5, u6, u7, u8, u9, u10, u11, u12, u13, u14, u15, u16, u17, u18, u19, u20, u21, u22, u23, u24, u25, u26, .ref wa, .ref la, .ref ta, .int (cS nw x S), .int (neF (sD S) (FP.i2f (sT S 1)) (aiF (sF S) (eS nw x S) (cS nw x S)) 4), .float (heF (sD S) (aiF (sF S) (eS nw x S) (cS nw x S)) 4), u33, u34, .ref sa])), (xa, .inl (E 0, 12, .inl (g_tv 0))), (wa, .inl (E 0, 3, .inl (wnF nw x S))), (la, .inl (E 1, 4, .inr (.inr (.inl (amP (sD S) (aiF (sF S) (eS nw x S) (cS nw x S)) (sF S) 4))))), (ta, .inl (E 1, 4, .inr (.inr (.inl (amP (sD S) (aiF (sF S) (eS nw x S) (g_tv 1 (lpN (sD S)))) (sF S) 4))))), (sa, .inl (E 0, 9, .inl (g_tv 1))), (pp, .inl (E 0, 29, .inl (pgF (wC (wR S 0) (crF (sD S) (sF S) (aS nw x S) (sC S) (i + 1)))))), (ff, .inl (E 1, 5, .inr (.inr (.inl (amP (sD S) (aS nw x S) (fl5 S) (i + 1))))))] H locs := by
                have e6 : (pgF (wC (wR S 0) (crF (sD S) (sF S) (aS nw x S) (sC S) i + 1))) = (pgF (wC (wR S 0) (crF (sD S) (sF S) (aS nw x S) (sC S) (i + 1)))) := by exact congrArg (fun z => pgF (wC (wR S 0) z)) (crB1 k_67 (by simp [k_79, k_90]))
                rw [e6] at hw
                have e7 : (vf_upd (amP (sD S) (aS nw x S) (fl5 S) i) i (aS nw x S i)) = (amP (sD S) (aS nw x S) (fl5 S) (i + 1)) := by exact am_step _ k_67 rfl
                rw [e7] at hw
                exact hw
              exact ih (i + 1) (by omega)   _ _ _ hw (lv_sub hl [1, 2, 3, 0] rfl)
            · skip
              have k_90 := g_clF2 c_90
              refine lv_aload_n hx hb dX6_turnWheels_93 rfl (lv_at hl 2 rfl) ?_
              refine lv_iload_n hx hb dX6_turnWheels_94 rfl (lv_at hl 3 rfl) ?_
              refine g_fld hc hw 7 i rfl rfl (by omega) (by decide) dX6_turnWheels_95 ?_
              refine W.eq (congrArg (fun z => F0 m 96 ls (.float z :: [.int (sC (wC (wR S 0) (crF (sD S) (sF S) (aS nw x S) (sC S) i))), .int 3, .ref pp])) (show ((amP (sD S) (aS nw x S) (fl5 S) i) i : UInt32) = sF S i from ((am_at _ _ _).trans (fl5_lt _ (by omega))))) ?_
              refine lv_fconst0 hx hb dX6_turnWheels_96 ?_
              refine lv_fcmp hx hb dX6_turnWheels_97 ?_
              refine lv_if_le (tgt := 116) hx hb dX6_turnWheels_98 (by decide) (fun c_98 => ?_) (fun c_98 => ?_)
              · skip
                have k_98 := g_clg c_98
                refine lv_iconst (v := 0) hx hb dX6_turnWheels_116 (by decide) ?_
                refine lv_iadd hx hb dX6_turnWheels_117 ?_
                refine g_ist hc hw 6 3 rfl rfl (by omega) (by decide) dX6_turnWheels_118 (fun H locs hw => ?_)
                have hw : g_W D A s [(o, .inr (6, [u0, u1, u2, .ref xa, u4, u5, u6, u7, u8, u9, u10, u11, u12, u13, u14, u15, u16, u17, u18, u19, u20, u21, u22, u23, u24, u25, u26, .ref wa, .ref la, .ref ta, .int (cS nw x S), .int (neF (sD S) (FP.i2f (sT S 1)) (aiF (sF S) (eS nw x S) (cS nw x S)) 4), .float (heF (sD S) (aiF (sF S) (eS nw x S) (cS nw x S)) 4), u33, u34, .ref sa])), (xa, .inl (E 0, 12, .inl (g_tv 0))), (wa, .inl (E 0, 3, .inl (wnF nw x S))), (la, .inl (E 1, 4, .inr (.inr (.inl (amP (sD S) (aiF (sF S) (eS nw x S) (cS nw x S)) (sF S) 4))))), (ta, .inl (E 1, 4, .inr (.inr (.inl (amP (sD S) (aiF (sF S) (eS nw x S) (g_tv 1 (lpN (sD S)))) (sF S) 4))))), (sa, .inl (E 0, 9, .inl (g_tv 1))), (pp, .inl (E 0, 29, .inl (upd (pgF (wC (wR S 0) (crF (sD S) (sF S) (aS nw x S) (sC S) i))) 3 ((sC (wC (wR S 0) (crF (sD S) (sF S) (aS nw x S) (sC S) i))) + 0)))), (ff, .inl (E 1, 5, .inr (.inr (.inl (amP (sD S) (aS nw x S) (fl5 S) i)))))] H locs := hw
                rw [pg_C] at hw
                have hw : g_W D A s [(o, .inr (6, [u0, u1, u2, .ref xa, u4, u5, u6, u7, u8, u9, u10, u11, u12, u13, u14, u15, u16, u17, u18, u19, u20, u21, u22, u23, u24, u25, u26, .ref wa, .ref la, .ref ta, .int (cS nw x S), .int (neF (sD S) (FP.i2f (sT S 1)) (aiF (sF S) (eS nw x S) (cS nw x S)) 4), .float (heF (sD S) (aiF (sF S) (eS nw x S) (cS nw x S)) 4), u33, u34, .ref sa])), (xa, .inl (E 0, 12, .inl (g_tv 0))), (wa, .inl (E 0, 3, .inl (wnF nw x S))), (la, .inl (E 1, 4, .inr (.inr (.inl (amP (sD S) (aiF (sF S) (eS nw x S) (cS nw x S)) (sF S) 4))))), (ta, .inl (E 1, 4, .inr (.inr (.inl (amP (sD S) (aiF (sF S) (eS nw x S) (g_tv 1 (lpN (sD S)))) (sF S) 4))))), (sa, .inl (E 0, 9, .inl (g_tv 1))), (pp, .inl (E 0, 29, .inl (pgF (wC (wC (wR S 0) (crF (sD S) (sF S) (aS nw x S) (sC S) i)) ((sC (wC (wR S 0) (crF (sD S) (sF S) (aS nw x S) (sC S) i))) + 0))))), (ff, .inl (E 1, 5, .inr (.inr (.inl (amP (sD S) (aS nw x S) (fl5 S) i)))))] H locs := hw
                have hw : g_W D A s [(o, .inr (6, [u0, u1, u2, .ref xa, u4, u5, u6, u7, u8, u9, u10, u11, u12, u13, u14, u15, u16, u17, u18, u19, u20, u21, u22, u23, u24, u25, u26, .ref wa, .ref la, .ref ta, .int (cS nw x S), .int (neF (sD S) (FP.i2f (sT S 1)) (aiF (sF S) (eS nw x S) (cS nw x S)) 4), .float (heF (sD S) (aiF (sF S) (eS nw x S) (cS nw x S)) 4), u33, u34, .ref sa])), (xa, .inl (E 0, 12, .inl (g_tv 0))), (wa, .inl (E 0, 3, .inl (wnF nw x S))), (la, .inl (E 1, 4, .inr (.inr (.inl (amP (sD S) (aiF (sF S) (eS nw x S) (cS nw x S)) (sF S) 4))))), (ta, .inl (E 1, 4, .inr (.inr (.inl (amP (sD S) (aiF (sF S) (eS nw x S) (g_tv 1 (lpN (sD S)))) (sF S) 4))))), (sa, .inl (E 0, 9, .inl (g_tv 1))), (pp, .inl (E 0, 29, .inl (pgF (wC (wR S 0) (crF (sD S) (sF S) (aS nw x S) (sC S) i + 0))))), (ff, .inl (E 1, 5, .inr (.inr (.inl (amP (sD S) (aS nw x S) (fl5 S) i)))))] H locs := hw
                refine lv_aload_n hx hb dX6_turnWheels_119 rfl (lv_at hl 2 rfl) ?_
                refine lv_iload_n hx hb dX6_turnWheels_120 rfl (lv_at hl 3 rfl) ?_
                refine lv_aload_n hx hb dX6_turnWheels_121 rfl (lv_at hl 0 rfl) ?_
                refine g_get (TT := TX6) hc hw inX6_turnWheels_X6 0 28 2 rfl rfl (by decide) rfl rfl dX6_turnWheels_122 ?_
                refine lv_iload_n hx hb dX6_turnWheels_125 rfl (lv_at hl 3 rfl) ?_
                refine g_fld hc hw 3 i rfl rfl (by omega) (by decide) dX6_turnWheels_126 ?_
                refine W.eq (congrArg (fun z => F0 m 127 ls (.float z :: [.int (nI i), .ref ff])) (show ((amP (sD S) (aiF (sF S) (eS nw x S) (cS nw x S)) (sF S) 4) i : UInt32) = aS nw x S i from (am_live (aS nw x S) (sF S) k_67 (by omega)).symm)) ?_
                refine g_fst hc hw 7 i rfl rfl (by omega) (by decide) dX6_turnWheels_127 (fun H locs hw => ?_)
                have hw : g_W D A s [(o, .inr (6, [u0, u1, u2, .ref xa, u4, u5, u6, u7, u8, u9, u10, u11, u12, u13, u14, u15, u16, u17, u18, u19, u20, u21, u22, u23, u24, u25, u26, .ref wa, .ref la, .ref ta, .int (cS nw x S), .int (neF (sD S) (FP.i2f (sT S 1)) (aiF (sF S) (eS nw x S) (cS nw x S)) 4), .float (heF (sD S) (aiF (sF S) (eS nw x S) (cS nw x S)) 4), u33, u34, .ref sa])), (xa, .inl (E 0, 12, .inl (g_tv 0))), (wa, .inl (E 0, 3, .inl (wnF nw x S))), (la, .inl (E 1, 4, .inr (.inr (.inl (amP (sD S) (aiF (sF S) (eS nw x S) (cS nw x S)) (sF S) 4))))), (ta, .inl (E 1, 4, .inr (.inr (.inl (amP (sD S) (aiF (sF S) (eS nw x S) (g_tv 1 (lpN (sD S)))) (sF S) 4))))), (sa, .inl (E 0, 9, .inl (g_tv 1))), (pp, .inl (E 0, 29, .inl (pgF (wC (wR S 0) (crF (sD S) (sF S) (aS nw x S) (sC S) i + 0))))), (ff, .inl (E 1, 5, .inr (.inr (.inl (vf_upd (amP (sD S) (aS nw x S) (fl5 S) i) i (aS nw x S i))))))] H locs := hw
                refine lv_iinc (v := nI (i + 1)) (lv' := [(3, .int (nI (i + 1))), (0, .ref o), (1, .ref pp), (2, .ref ff)]) hx hb dX6_turnWheels_128 hl (k := 3) rfl (n_inc1 rfl) (by decide) rfl (fun ls hl => ?_)
                refine lv_goto (tgt := 55) hx hb dX6_turnWheels_131 (by decide) ?_
                have hw : g_W D A s [(o, .inr (6, [u0, u1, u2, .ref xa, u4, u5, u6, u7, u8, u9, u10, u11, u12, u13, u14, u15, u16, u17, u18, u19, u20, u21, u22, u23, u24, u25, u26, .ref wa, .ref la, .ref ta, .int (cS nw x S), .int (neF (sD S) (FP.i2f (sT S 1)) (aiF (sF S) (eS nw x S) (cS nw x S)) 4), .float (heF (sD S) (aiF (sF S) (eS nw x S) (cS nw x S)) 4), u33, u34, .ref sa])), (xa, .inl (E 0, 12, .inl (g_tv 0))), (wa, .inl (E 0, 3, .inl (wnF nw x S))), (la, .inl (E 1, 4, .inr (.inr (.inl (amP (sD S) (aiF (sF S) (eS nw x S) (cS nw x S)) (sF S) 4))))), (ta, .inl (E 1, 4, .inr (.inr (.inl (amP (sD S) (aiF (sF S) (eS nw x S) (g_tv 1 (lpN (sD S)))) (sF S) 4))))), (sa, .inl (E 0, 9, .inl (g_tv 1))), (pp, .inl (E 0, 29, .inl (pgF (wC (wR S 0) (crF (sD S) (sF S) (aS nw x S) (sC S) (i + 1)))))), (ff, .inl (E 1, 5, .inr (.inr (.inl (amP (sD S) (aS nw x S) (fl5 S) (i + 1))))))] H locs := by
                  have e6 : (pgF (wC (wR S 0) (crF (sD S) (sF S) (aS nw x S) (sC S) i + 0))) = (pgF (wC (wR S 0) (crF (sD S) (sF S) (aS nw x S) (sC S) (i + 1)))) := by exact congrArg (fun z => pgF (wC (wR S 0) z)) (crB0 k_67 (by simp [k_79, k_90, k_98]))
                  rw [e6] at hw
                  have e7 : (vf_upd (amP (sD S) (aS nw x S) (fl5 S) i) i (aS nw x S i)) = (amP (sD S) (aS nw x S) (fl5 S) (i + 1)) := by exact am_step _ k_67 rfl
                  rw [e7] at hw
                  exact hw
                exact ih (i + 1) (by omega)   _ _ _ hw (lv_sub hl [1, 2, 3, 0] rfl)
              · skip
                have k_98 := g_clt c_98
                refine lv_aload_n hx hb dX6_turnWheels_101 rfl (lv_at hl 0 rfl) ?_
                refine g_get (TT := TX6) hc hw inX6_turnWheels_X6 0 28 2 rfl rfl (by decide) rfl rfl dX6_turnWheels_102 ?_
                refine lv_iload_n hx hb dX6_turnWheels_105 rfl (lv_at hl 3 rfl) ?_
                refine g_fld hc hw 3 i rfl rfl (by omega) (by decide) dX6_turnWheels_106 ?_
                refine W.eq (congrArg (fun z => F0 m 107 ls (.float z :: [.int (sC (wC (wR S 0) (crF (sD S) (sF S) (aS nw x S) (sC S) i))), .int 3, .ref pp])) (show ((amP (sD S) (aiF (sF S) (eS nw x S) (cS nw x S)) (sF S) 4) i : UInt32) = aS nw x S i from (am_live (aS nw x S) (sF S) k_67 (by omega)).symm)) ?_
                refine lv_fconst0 hx hb dX6_turnWheels_107 ?_
                refine lv_fcmp hx hb dX6_turnWheels_108 ?_
                refine lv_if_ge (tgt := 116) hx hb dX6_turnWheels_109 (by decide) (fun c_109 => ?_) (fun c_109 => ?_)
                · skip
                  have k_109 := g_cgl c_109
                  refine lv_iconst (v := 0) hx hb dX6_turnWheels_116 (by decide) ?_
                  refine lv_iadd hx hb dX6_turnWheels_117 ?_
                  refine g_ist hc hw 6 3 rfl rfl (by omega) (by decide) dX6_turnWheels_118 (fun H locs hw => ?_)
                  have hw : g_W D A s [(o, .inr (6, [u0, u1, u2, .ref xa, u4, u5, u6, u7, u8, u9, u10, u11, u12, u13, u14, u15, u16, u17, u18, u19, u20, u21, u22, u23, u24, u25, u26, .ref wa, .ref la, .ref ta, .int (cS nw x S), .int (neF (sD S) (FP.i2f (sT S 1)) (aiF (sF S) (eS nw x S) (cS nw x S)) 4), .float (heF (sD S) (aiF (sF S) (eS nw x S) (cS nw x S)) 4), u33, u34, .ref sa])), (xa, .inl (E 0, 12, .inl (g_tv 0))), (wa, .inl (E 0, 3, .inl (wnF nw x S))), (la, .inl (E 1, 4, .inr (.inr (.inl (amP (sD S) (aiF (sF S) (eS nw x S) (cS nw x S)) (sF S) 4))))), (ta, .inl (E 1, 4, .inr (.inr (.inl (amP (sD S) (aiF (sF S) (eS nw x S) (g_tv 1 (lpN (sD S)))) (sF S) 4))))), (sa, .inl (E 0, 9, .inl (g_tv 1))), (pp, .inl (E 0, 29, .inl (upd (pgF (wC (wR S 0) (crF (sD S) (sF S) (aS nw x S) (sC S) i))) 3 ((sC (wC (wR S 0) (crF (sD S) (sF S) (aS nw x S) (sC S) i))) + 0)))), (ff, .inl (E 1, 5, .inr (.inr (.inl (amP (sD S) (aS nw x S) (fl5 S) i)))))] H locs := hw
                  rw [pg_C] at hw
                  have hw : g_W D A s [(o, .inr (6, [u0, u1, u2, .ref xa, u4, u5, u6, u7, u8, u9, u10, u11, u12, u13, u14, u15, u16, u17, u18, u19, u20, u21, u22, u23, u24, u25, u26, .ref wa, .ref la, .ref ta, .int (cS nw x S), .int (neF (sD S) (FP.i2f (sT S 1)) (aiF (sF S) (eS nw x S) (cS nw x S)) 4), .float (heF (sD S) (aiF (sF S) (eS nw x S) (cS nw x S)) 4), u33, u34, .ref sa])), (xa, .inl (E 0, 12, .inl (g_tv 0))), (wa, .inl (E 0, 3, .inl (wnF nw x S))), (la, .inl (E 1, 4, .inr (.inr (.inl (amP (sD S) (aiF (sF S) (eS nw x S) (cS nw x S)) (sF S) 4))))), (ta, .inl (E 1, 4, .inr (.inr (.inl (amP (sD S) (aiF (sF S) (eS nw x S) (g_tv 1 (lpN (sD S)))) (sF S) 4))))), (sa, .inl (E 0, 9, .inl (g_tv 1))), (pp, .inl (E 0, 29, .inl (pgF (wC (wC (wR S 0) (crF (sD S) (sF S) (aS nw x S) (sC S) i)) ((sC (wC (wR S 0) (crF (sD S) (sF S) (aS nw x S) (sC S) i))) + 0))))), (ff, .inl (E 1, 5, .inr (.inr (.inl (amP (sD S) (aS nw x S) (fl5 S) i)))))] H locs := hw
                  have hw : g_W D A s [(o, .inr (6, [u0, u1, u2, .ref xa, u4, u5, u6, u7, u8, u9, u10, u11, u12, u13, u14, u15, u16, u17, u18, u19, u20, u21, u22, u23, u24, u25, u26, .ref wa, .ref la, .ref ta, .int (cS nw x S), .int (neF (sD S) (FP.i2f (sT S 1)) (aiF (sF S) (eS nw x S) (cS nw x S)) 4), .float (heF (sD S) (aiF (sF S) (eS nw x S) (cS nw x S)) 4), u33, u34, .ref sa])), (xa, .inl (E 0, 12, .inl (g_tv 0))), (wa, .inl (E 0, 3, .inl (wnF nw x S))), (la, .inl (E 1, 4, .inr (.inr (.inl (amP (sD S) (aiF (sF S) (eS nw x S) (cS nw x S)) (sF S) 4))))), (ta, .inl (E 1, 4, .inr (.inr (.inl (amP (sD S) (aiF (sF S) (eS nw x S) (g_tv 1 (lpN (sD S)))) (sF S) 4))))), (sa, .inl (E 0, 9, .inl (g_tv 1))), (pp, .inl (E 0, 29, .inl (pgF (wC (wR S 0) (crF (sD S) (sF S) (aS nw x S) (sC S) i + 0))))), (ff, .inl (E 1, 5, .inr (.inr (.inl (amP (sD S) (aS nw x S) (fl5 S) i)))))] H locs := hw
                  refine lv_aload_n hx hb dX6_turnWheels_119 rfl (lv_at hl 2 rfl) ?_
                  refine lv_iload_n hx hb dX6_turnWheels_120 rfl (lv_at hl 3 rfl) ?_
                  refine lv_aload_n hx hb dX6_turnWheels_121 rfl (lv_at hl 0 rfl) ?_
                  refine g_get (TT := TX6) hc hw inX6_turnWheels_X6 0 28 2 rfl rfl (by decide) rfl rfl dX6_turnWheels_122 ?_
                  refine lv_iload_n hx hb dX6_turnWheels_125 rfl (lv_at hl 3 rfl) ?_
                  refine g_fld hc hw 3 i rfl rfl (by omega) (by decide) dX6_turnWheels_126 ?_
                  refine W.eq (congrArg (fun z => F0 m 127 ls (.float z :: [.int (nI i), .ref ff])) (show ((amP (sD S) (aiF (sF S) (eS nw x S) (cS nw x S)) (sF S) 4) i : UInt32) = aS nw x S i from (am_live (aS nw x S) (sF S) k_67 (by omega)).symm)) ?_
                  refine g_fst hc hw 7 i rfl rfl (by omega) (by decide) dX6_turnWheels_127 (fun H locs hw => ?_)
                  have hw : g_W D A s [(o, .inr (6, [u0, u1, u2, .ref xa, u4, u5, u6, u7, u8, u9, u10, u11, u12, u13, u14, u15, u16, u17, u18, u19, u20, u21, u22, u23, u24, u25, u26, .ref wa, .ref la, .ref ta, .int (cS nw x S), .int (neF (sD S) (FP.i2f (sT S 1)) (aiF (sF S) (eS nw x S) (cS nw x S)) 4), .float (heF (sD S) (aiF (sF S) (eS nw x S) (cS nw x S)) 4), u33, u34, .ref sa])), (xa, .inl (E 0, 12, .inl (g_tv 0))), (wa, .inl (E 0, 3, .inl (wnF nw x S))), (la, .inl (E 1, 4, .inr (.inr (.inl (amP (sD S) (aiF (sF S) (eS nw x S) (cS nw x S)) (sF S) 4))))), (ta, .inl (E 1, 4, .inr (.inr (.inl (amP (sD S) (aiF (sF S) (eS nw x S) (g_tv 1 (lpN (sD S)))) (sF S) 4))))), (sa, .inl (E 0, 9, .inl (g_tv 1))), (pp, .inl (E 0, 29, .inl (pgF (wC (wR S 0) (crF (sD S) (sF S) (aS nw x S) (sC S) i + 0))))), (ff, .inl (E 1, 5, .inr (.inr (.inl (vf_upd (amP (sD S) (aS nw x S) (fl5 S) i) i (aS nw x S i))))))] H locs := hw
                  refine lv_iinc (v := nI (i + 1)) (lv' := [(3, .int (nI (i + 1))), (0, .ref o), (1, .ref pp), (2, .ref ff)]) hx hb dX6_turnWheels_128 hl (k := 3) rfl (n_inc1 rfl) (by decide) rfl (fun ls hl => ?_)
                  refine lv_goto (tgt := 55) hx hb dX6_turnWheels_131 (by decide) ?_
                  have hw : g_W D A s [(o, .inr (6, [u0, u1, u2, .ref xa, u4, u5, u6, u7, u8, u9, u10, u11, u12, u13, u14, u15, u16, u17, u18, u19, u20, u21, u22, u23, u24, u25, u26, .ref wa, .ref la, .ref ta, .int (cS nw x S), .int (neF (sD S) (FP.i2f (sT S 1)) (aiF (sF S) (eS nw x S) (cS nw x S)) 4), .float (heF (sD S) (aiF (sF S) (eS nw x S) (cS nw x S)) 4), u33, u34, .ref sa])), (xa, .inl (E 0, 12, .inl (g_tv 0))), (wa, .inl (E 0, 3, .inl (wnF nw x S))), (la, .inl (E 1, 4, .inr (.inr (.inl (amP (sD S) (aiF (sF S) (eS nw x S) (cS nw x S)) (sF S) 4))))), (ta, .inl (E 1, 4, .inr (.inr (.inl (amP (sD S) (aiF (sF S) (eS nw x S) (g_tv 1 (lpN (sD S)))) (sF S) 4))))), (sa, .inl (E 0, 9, .inl (g_tv 1))), (pp, .inl (E 0, 29, .inl (pgF (wC (wR S 0) (crF (sD S) (sF S) (aS nw x S) (sC S) (i + 1)))))), (ff, .inl (E 1, 5, .inr (.inr (.inl (amP (sD S) (aS nw x S) (fl5 S) (i + 1))))))] H locs := by
                    have e6 : (pgF (wC (wR S 0) (crF (sD S) (sF S) (aS nw x S) (sC S) i + 0))) = (pgF (wC (wR S 0) (crF (sD S) (sF S) (aS nw x S) (sC S) (i + 1)))) := by exact congrArg (fun z => pgF (wC (wR S 0) z)) (crB0 k_67 (by simp [k_79, k_90, k_98, k_109]))
                    rw [e6] at hw
                    have e7 : (vf_upd (amP (sD S) (aS nw x S) (fl5 S) i) i (aS nw x S i)) = (amP (sD S) (aS nw x S) (fl5 S) (i + 1)) := by exact am_step _ k_67 rfl
                    rw [e7] at hw
                    exact hw
                  exact ih (i + 1) (by omega)   _ _ _ hw (lv_sub hl [1, 2, 3, 0] rfl)
                · skip
                  have k_109 := g_cgt c_109
                  refine lv_iconst (v := 1) hx hb dX6_turnWheels_112 (by decide) ?_
                  refine lv_goto (tgt := 117) hx hb dX6_turnWheels_113 (by decide) ?_
                  refine lv_iadd hx hb dX6_turnWheels_117 ?_
                  refine g_ist hc hw 6 3 rfl rfl (by omega) (by decide) dX6_turnWheels_118 (fun H locs hw => ?_)
                  have hw : g_W D A s [(o, .inr (6, [u0, u1, u2, .ref xa, u4, u5, u6, u7, u8, u9, u10, u11, u12, u13, u14, u15, u16, u17, u18, u19, u20, u21, u22, u23, u24, u25, u26, .ref wa, .ref la, .ref ta, .int (cS nw x S), .int (neF (sD S) (FP.i2f (sT S 1)) (aiF (sF S) (eS nw x S) (cS nw x S)) 4), .float (heF (sD S) (aiF (sF S) (eS nw x S) (cS nw x S)) 4), u33, u34, .ref sa])), (xa, .inl (E 0, 12, .inl (g_tv 0))), (wa, .inl (E 0, 3, .inl (wnF nw x S))), (la, .inl (E 1, 4, .inr (.inr (.inl (amP (sD S) (aiF (sF S) (eS nw x S) (cS nw x S)) (sF S) 4))))), (ta, .inl (E 1, 4, .inr (.inr (.inl (amP (sD S) (aiF (sF S) (eS nw x S) (g_tv 1 (lpN (sD S)))) (sF S) 4))))), (sa, .inl (E 0, 9, .inl (g_tv 1))), (pp, .inl (E 0, 29, .inl (upd (pgF (wC (wR S 0) (crF (sD S) (sF S) (aS nw x S) (sC S) i))) 3 ((sC (wC (wR S 0) (crF (sD S) (sF S) (aS nw x S) (sC S) i))) + 1)))), (ff, .inl (E 1, 5, .inr (.inr (.inl (amP (sD S) (aS nw x S) (fl5 S) i)))))] H locs := hw
                  rw [pg_C] at hw
                  have hw : g_W D A s [(o, .inr (6, [u0, u1, u2, .ref xa, u4, u5, u6, u7, u8, u9, u10, u11, u12, u13, u14, u15, u16, u17, u18, u19, u20, u21, u22, u23, u24, u25, u26, .ref wa, .ref la, .ref ta, .int (cS nw x S), .int (neF (sD S) (FP.i2f (sT S 1)) (aiF (sF S) (eS nw x S) (cS nw x S)) 4), .float (heF (sD S) (aiF (sF S) (eS nw x S) (cS nw x S)) 4), u33, u34, .ref sa])), (xa, .inl (E 0, 12, .inl (g_tv 0))), (wa, .inl (E 0, 3, .inl (wnF nw x S))), (la, .inl (E 1, 4, .inr (.inr (.inl (amP (sD S) (aiF (sF S) (eS nw x S) (cS nw x S)) (sF S) 4))))), (ta, .inl (E 1, 4, .inr (.inr (.inl (amP (sD S) (aiF (sF S) (eS nw x S) (g_tv 1 (lpN (sD S)))) (sF S) 4))))), (sa, .inl (E 0, 9, .inl (g_tv 1))), (pp, .inl (E 0, 29, .inl (pgF (wC (wC (wR S 0) (crF (sD S) (sF S) (aS nw x S) (sC S) i)) ((sC (wC (wR S 0) (crF (sD S) (sF S) (aS nw x S) (sC S) i))) + 1))))), (ff, .inl (E 1, 5, .inr (.inr (.inl (amP (sD S) (aS nw x S) (fl5 S) i)))))] H locs := hw
                  have hw : g_W D A s [(o, .inr (6, [u0, u1, u2, .ref xa, u4, u5, u6, u7, u8, u9, u10, u11, u12, u13, u14, u15, u16, u17, u18, u19, u20, u21, u22, u23, u24, u25, u26, .ref wa, .ref la, .ref ta, .int (cS nw x S), .int (neF (sD S) (FP.i2f (sT S 1)) (aiF (sF S) (eS nw x S) (cS nw x S)) 4), .float (heF (sD S) (aiF (sF S) (eS nw x S) (cS nw x S)) 4), u33, u34, .ref sa])), (xa, .inl (E 0, 12, .inl (g_tv 0))), (wa, .inl (E 0, 3, .inl (wnF nw x S))), (la, .inl (E 1, 4, .inr (.inr (.inl (amP (sD S) (aiF (sF S) (eS nw x S) (cS nw x S)) (sF S) 4))))), (ta, .inl (E 1, 4, .inr (.inr (.inl (amP (sD S) (aiF (sF S) (eS nw x S) (g_tv 1 (lpN (sD S)))) (sF S) 4))))), (sa, .inl (E 0, 9, .inl (g_tv 1))), (pp, .inl (E 0, 29, .inl (pgF (wC (wR S 0) (crF (sD S) (sF S) (aS nw x S) (sC S) i + 1))))), (ff, .inl (E 1, 5, .inr (.inr (.inl (amP (sD S) (aS nw x S) (fl5 S) i)))))] H locs := hw
                  refine lv_aload_n hx hb dX6_turnWheels_119 rfl (lv_at hl 2 rfl) ?_
                  refine lv_iload_n hx hb dX6_turnWheels_120 rfl (lv_at hl 3 rfl) ?_
                  refine lv_aload_n hx hb dX6_turnWheels_121 rfl (lv_at hl 0 rfl) ?_
                  refine g_get (TT := TX6) hc hw inX6_turnWheels_X6 0 28 2 rfl rfl (by decide) rfl rfl dX6_turnWheels_122 ?_
                  refine lv_iload_n hx hb dX6_turnWheels_125 rfl (lv_at hl 3 rfl) ?_
                  refine g_fld hc hw 3 i rfl rfl (by omega) (by decide) dX6_turnWheels_126 ?_
                  refine W.eq (congrArg (fun z => F0 m 127 ls (.float z :: [.int (nI i), .ref ff])) (show ((amP (sD S) (aiF (sF S) (eS nw x S) (cS nw x S)) (sF S) 4) i : UInt32) = aS nw x S i from (am_live (aS nw x S) (sF S) k_67 (by omega)).symm)) ?_
                  refine g_fst hc hw 7 i rfl rfl (by omega) (by decide) dX6_turnWheels_127 (fun H locs hw => ?_)
                  have hw : g_W D A s [(o, .inr (6, [u0, u1, u2, .ref xa, u4, u5, u6, u7, u8, u9, u10, u11, u12, u13, u14, u15, u16, u17, u18, u19, u20, u21, u22, u23, u24, u25, u26, .ref wa, .ref la, .ref ta, .int (cS nw x S), .int (neF (sD S) (FP.i2f (sT S 1)) (aiF (sF S) (eS nw x S) (cS nw x S)) 4), .float (heF (sD S) (aiF (sF S) (eS nw x S) (cS nw x S)) 4), u33, u34, .ref sa])), (xa, .inl (E 0, 12, .inl (g_tv 0))), (wa, .inl (E 0, 3, .inl (wnF nw x S))), (la, .inl (E 1, 4, .inr (.inr (.inl (amP (sD S) (aiF (sF S) (eS nw x S) (cS nw x S)) (sF S) 4))))), (ta, .inl (E 1, 4, .inr (.inr (.inl (amP (sD S) (aiF (sF S) (eS nw x S) (g_tv 1 (lpN (sD S)))) (sF S) 4))))), (sa, .inl (E 0, 9, .inl (g_tv 1))), (pp, .inl (E 0, 29, .inl (pgF (wC (wR S 0) (crF (sD S) (sF S) (aS nw x S) (sC S) i + 1))))), (ff, .inl (E 1, 5, .inr (.inr (.inl (vf_upd (amP (sD S) (aS nw x S) (fl5 S) i) i (aS nw x S i))))))] H locs := hw
                  refine lv_iinc (v := nI (i + 1)) (lv' := [(3, .int (nI (i + 1))), (0, .ref o), (1, .ref pp), (2, .ref ff)]) hx hb dX6_turnWheels_128 hl (k := 3) rfl (n_inc1 rfl) (by decide) rfl (fun ls hl => ?_)
                  refine lv_goto (tgt := 55) hx hb dX6_turnWheels_131 (by decide) ?_
                  have hw : g_W D A s [(o, .inr (6, [u0, u1, u2, .ref xa, u4, u5, u6, u7, u8, u9, u10, u11, u12, u13, u14, u15, u16, u17, u18, u19, u20, u21, u22, u23, u24, u25, u26, .ref wa, .ref la, .ref ta, .int (cS nw x S), .int (neF (sD S) (FP.i2f (sT S 1)) (aiF (sF S) (eS nw x S) (cS nw x S)) 4), .float (heF (sD S) (aiF (sF S) (eS nw x S) (cS nw x S)) 4), u33, u34, .ref sa])), (xa, .inl (E 0, 12, .inl (g_tv 0))), (wa, .inl (E 0, 3, .inl (wnF nw x S))), (la, .inl (E 1, 4, .inr (.inr (.inl (amP (sD S) (aiF (sF S) (eS nw x S) (cS nw x S)) (sF S) 4))))), (ta, .inl (E 1, 4, .inr (.inr (.inl (amP (sD S) (aiF (sF S) (eS nw x S) (g_tv 1 (lpN (sD S)))) (sF S) 4))))), (sa, .inl (E 0, 9, .inl (g_tv 1))), (pp, .inl (E 0, 29, .inl (pgF (wC (wR S 0) (crF (sD S) (sF S) (aS nw x S) (sC S) (i + 1)))))), (ff, .inl (E 1, 5, .inr (.inr (.inl (amP (sD S) (aS nw x S) (fl5 S) (i + 1))))))] H locs := by
                    have e6 : (pgF (wC (wR S 0) (crF (sD S) (sF S) (aS nw x S) (sC S) i + 1))) = (pgF (wC (wR S 0) (crF (sD S) (sF S) (aS nw x S) (sC S) (i + 1)))) := by exact congrArg (fun z => pgF (wC (wR S 0) z)) (crB1 k_67 (by simp [k_79, k_90, k_98, k_109]))
                    rw [e6] at hw
                    have e7 : (vf_upd (amP (sD S) (aS nw x S) (fl5 S) i) i (aS nw x S i)) = (amP (sD S) (aS nw x S) (fl5 S) (i + 1)) := by exact am_step _ k_67 rfl
                    rw [e7] at hw
                    exact hw
                  exact ih (i + 1) (by omega)   _ _ _ hw (lv_sub hl [1, 2, 3, 0] rfl)
    have hw : g_W D A s [(o, .inr (6, [u0, u1, u2, .ref xa, u4, u5, u6, u7, u8, u9, u10, u11, u12, u13, u14, u15, u16, u17, u18, u19, u20, u21, u22, u23, u24, u25, u26, .ref wa, .ref la, .ref ta, .int (cS nw x S), .int (neF (sD S) (FP.i2f (sT S 1)) (aiF (sF S) (eS nw x S) (cS nw x S)) 4), .float (heF (sD S) (aiF (sF S) (eS nw x S) (cS nw x S)) 4), u33, u34, .ref sa])), (xa, .inl (E 0, 12, .inl (g_tv 0))), (wa, .inl (E 0, 3, .inl (wnF nw x S))), (la, .inl (E 1, 4, .inr (.inr (.inl (amP (sD S) (aiF (sF S) (eS nw x S) (cS nw x S)) (sF S) 4))))), (ta, .inl (E 1, 4, .inr (.inr (.inl (amP (sD S) (aiF (sF S) (eS nw x S) (g_tv 1 (lpN (sD S)))) (sF S) 4))))), (sa, .inl (E 0, 9, .inl (g_tv 1))), (pp, .inl (E 0, 29, .inl (pgF (wC (wR S 0) (crF (sD S) (sF S) (aS nw x S) (sC S) 0))))), (ff, .inl (E 1, 5, .inr (.inr (.inl (amP (sD S) (aS nw x S) (fl5 S) 0)))))] H locs := by
      have e6 : (pgF (wR S 0)) = (pgF (wC (wR S 0) (crF (sD S) (sF S) (aS nw x S) (sC S) 0))) := by rfl
      rw [e6] at hw
      have e7 : (fl5 S) = (amP (sD S) (aS nw x S) (fl5 S) 0) := by exact am_0 _ _ _
      rw [e7] at hw
      exact hw
    exact J55 4 0 (by omega)   _ _ _ hw (lv_sub hl [1, 2, 3, 0] rfl)
  · skip
    have k_16 := g_clt c_16
    have hb0 : bS nw x S = true := k_16
    refine lv_aload_n hx hb dX6_turnWheels_19 rfl (lv_at hl 1 rfl) ?_
    refine lv_iconst (v := 2) hx hb dX6_turnWheels_20 (by decide) ?_
    refine lv_dup2_11 hx hb dX6_turnWheels_21 rfl rfl ?_
    refine g_ild hc hw 6 2 rfl rfl (by omega) (by decide) dX6_turnWheels_22 ?_
    refine W.eq (congrArg (fun z => F0 m 23 ls (.int z :: [.int 2, .ref pp])) (show ((pgF S) 2 : Int32) = sI S from rfl)) ?_
    refine lv_iconst (v := 1) hx hb dX6_turnWheels_23 (by decide) ?_
    refine lv_iadd hx hb dX6_turnWheels_24 ?_
    refine g_ist hc hw 6 2 rfl rfl (by omega) (by decide) dX6_turnWheels_25 (fun H locs hw => ?_)
    have hw : g_W D A s [(o, .inr (6, [u0, u1, u2, .ref xa, u4, u5, u6, u7, u8, u9, u10, u11, u12, u13, u14, u15, u16, u17, u18, u19, u20, u21, u22, u23, u24, u25, u26, .ref wa, .ref la, .ref ta, .int (cS nw x S), .int (neF (sD S) (FP.i2f (sT S 1)) (aiF (sF S) (eS nw x S) (cS nw x S)) 4), .float (heF (sD S) (aiF (sF S) (eS nw x S) (cS nw x S)) 4), u33, u34, .ref sa])), (xa, .inl (E 0, 12, .inl (g_tv 0))), (wa, .inl (E 0, 3, .inl (wnF nw x S))), (la, .inl (E 1, 4, .inr (.inr (.inl (amP (sD S) (aiF (sF S) (eS nw x S) (cS nw x S)) (sF S) 4))))), (ta, .inl (E 1, 4, .inr (.inr (.inl (amP (sD S) (aiF (sF S) (eS nw x S) (g_tv 1 (lpN (sD S)))) (sF S) 4))))), (sa, .inl (E 0, 9, .inl (g_tv 1))), (pp, .inl (E 0, 29, .inl (upd (pgF S) 2 ((sI S) + 1)))), (ff, .inl (E 1, 5, .inr (.inr (.inl (fl5 S)))))] H locs := hw
    rw [pg_I] at hw
    have hw : g_W D A s [(o, .inr (6, [u0, u1, u2, .ref xa, u4, u5, u6, u7, u8, u9, u10, u11, u12, u13, u14, u15, u16, u17, u18, u19, u20, u21, u22, u23, u24, u25, u26, .ref wa, .ref la, .ref ta, .int (cS nw x S), .int (neF (sD S) (FP.i2f (sT S 1)) (aiF (sF S) (eS nw x S) (cS nw x S)) 4), .float (heF (sD S) (aiF (sF S) (eS nw x S) (cS nw x S)) 4), u33, u34, .ref sa])), (xa, .inl (E 0, 12, .inl (g_tv 0))), (wa, .inl (E 0, 3, .inl (wnF nw x S))), (la, .inl (E 1, 4, .inr (.inr (.inl (amP (sD S) (aiF (sF S) (eS nw x S) (cS nw x S)) (sF S) 4))))), (ta, .inl (E 1, 4, .inr (.inr (.inl (amP (sD S) (aiF (sF S) (eS nw x S) (g_tv 1 (lpN (sD S)))) (sF S) 4))))), (sa, .inl (E 0, 9, .inl (g_tv 1))), (pp, .inl (E 0, 29, .inl (pgF (wI S ((sI S) + 1))))), (ff, .inl (E 1, 5, .inr (.inr (.inl (fl5 S)))))] H locs := hw
    refine lv_aload_n hx hb dX6_turnWheels_26 rfl (lv_at hl 1 rfl) ?_
    refine lv_iconst (v := 5) hx hb dX6_turnWheels_27 (by decide) ?_
    refine lv_dup2_11 hx hb dX6_turnWheels_28 rfl rfl ?_
    refine g_ild hc hw 6 5 rfl rfl (by omega) (by decide) dX6_turnWheels_29 ?_
    refine W.eq (congrArg (fun z => F0 m 30 ls (.int z :: [.int 5, .ref pp])) (show ((pgF (wI S ((sI S) + 1))) 5 : Int32) = sR (wI S ((sI S) + 1)) from rfl)) ?_
    refine lv_iconst (v := 1) hx hb dX6_turnWheels_30 (by decide) ?_
    refine lv_iadd hx hb dX6_turnWheels_31 ?_
    refine g_ist hc hw 6 5 rfl rfl (by omega) (by decide) dX6_turnWheels_32 (fun H locs hw => ?_)
    have hw : g_W D A s [(o, .inr (6, [u0, u1, u2, .ref xa, u4, u5, u6, u7, u8, u9, u10, u11, u12, u13, u14, u15, u16, u17, u18, u19, u20, u21, u22, u23, u24, u25, u26, .ref wa, .ref la, .ref ta, .int (cS nw x S), .int (neF (sD S) (FP.i2f (sT S 1)) (aiF (sF S) (eS nw x S) (cS nw x S)) 4), .float (heF (sD S) (aiF (sF S) (eS nw x S) (cS nw x S)) 4), u33, u34, .ref sa])), (xa, .inl (E 0, 12, .inl (g_tv 0))), (wa, .inl (E 0, 3, .inl (wnF nw x S))), (la, .inl (E 1, 4, .inr (.inr (.inl (amP (sD S) (aiF (sF S) (eS nw x S) (cS nw x S)) (sF S) 4))))), (ta, .inl (E 1, 4, .inr (.inr (.inl (amP (sD S) (aiF (sF S) (eS nw x S) (g_tv 1 (lpN (sD S)))) (sF S) 4))))), (sa, .inl (E 0, 9, .inl (g_tv 1))), (pp, .inl (E 0, 29, .inl (upd (pgF (wI S ((sI S) + 1))) 5 ((sR (wI S ((sI S) + 1))) + 1)))), (ff, .inl (E 1, 5, .inr (.inr (.inl (fl5 S)))))] H locs := hw
    rw [pg_R] at hw
    have hw : g_W D A s [(o, .inr (6, [u0, u1, u2, .ref xa, u4, u5, u6, u7, u8, u9, u10, u11, u12, u13, u14, u15, u16, u17, u18, u19, u20, u21, u22, u23, u24, u25, u26, .ref wa, .ref la, .ref ta, .int (cS nw x S), .int (neF (sD S) (FP.i2f (sT S 1)) (aiF (sF S) (eS nw x S) (cS nw x S)) 4), .float (heF (sD S) (aiF (sF S) (eS nw x S) (cS nw x S)) 4), u33, u34, .ref sa])), (xa, .inl (E 0, 12, .inl (g_tv 0))), (wa, .inl (E 0, 3, .inl (wnF nw x S))), (la, .inl (E 1, 4, .inr (.inr (.inl (amP (sD S) (aiF (sF S) (eS nw x S) (cS nw x S)) (sF S) 4))))), (ta, .inl (E 1, 4, .inr (.inr (.inl (amP (sD S) (aiF (sF S) (eS nw x S) (g_tv 1 (lpN (sD S)))) (sF S) 4))))), (sa, .inl (E 0, 9, .inl (g_tv 1))), (pp, .inl (E 0, 29, .inl (pgF (wR (wI S ((sI S) + 1)) ((sR (wI S ((sI S) + 1))) + 1))))), (ff, .inl (E 1, 5, .inr (.inr (.inl (fl5 S)))))] H locs := hw
    refine lv_aload_n hx hb dX6_turnWheels_33 rfl (lv_at hl 1 rfl) ?_
    refine lv_iconst (v := 5) hx hb dX6_turnWheels_34 (by decide) ?_
    refine g_ild hc hw 6 5 rfl rfl (by omega) (by decide) dX6_turnWheels_35 ?_
    refine W.eq (congrArg (fun z => F0 m 36 ls (.int z :: [])) (show ((pgF (wR (wI S ((sI S) + 1)) ((sR (wI S ((sI S) + 1))) + 1))) 5 : Int32) = sR (wR (wI S ((sI S) + 1)) ((sR (wI S ((sI S) + 1))) + 1)) from rfl)) ?_
    refine lv_iconst (v := 3) hx hb dX6_turnWheels_36 (by decide) ?_
    refine lv_icmp_ne (tgt := 48) hx hb dX6_turnWheels_37 (by decide) (fun c_37 => ?_) (fun c_37 => ?_)
    · skip
      exact g_vret hQ hc hw hr rfl (by rw [t1W_m1 hok hb0 c_37]; rfl) dX6_turnWheels_48
    · skip
      refine lv_aload_n hx hb dX6_turnWheels_40 rfl (lv_at hl 1 rfl) ?_
      refine lv_iconst (v := 1) hx hb dX6_turnWheels_41 (by decide) ?_
      refine lv_iconst (v := 1) hx hb dX6_turnWheels_42 (by decide) ?_
      refine g_ist hc hw 6 1 rfl rfl (by omega) (by decide) dX6_turnWheels_43 (fun H locs hw => ?_)
      have hw : g_W D A s [(o, .inr (6, [u0, u1, u2, .ref xa, u4, u5, u6, u7, u8, u9, u10, u11, u12, u13, u14, u15, u16, u17, u18, u19, u20, u21, u22, u23, u24, u25, u26, .ref wa, .ref la, .ref ta, .int (cS nw x S), .int (neF (sD S) (FP.i2f (sT S 1)) (aiF (sF S) (eS nw x S) (cS nw x S)) 4), .float (heF (sD S) (aiF (sF S) (eS nw x S) (cS nw x S)) 4), u33, u34, .ref sa])), (xa, .inl (E 0, 12, .inl (g_tv 0))), (wa, .inl (E 0, 3, .inl (wnF nw x S))), (la, .inl (E 1, 4, .inr (.inr (.inl (amP (sD S) (aiF (sF S) (eS nw x S) (cS nw x S)) (sF S) 4))))), (ta, .inl (E 1, 4, .inr (.inr (.inl (amP (sD S) (aiF (sF S) (eS nw x S) (g_tv 1 (lpN (sD S)))) (sF S) 4))))), (sa, .inl (E 0, 9, .inl (g_tv 1))), (pp, .inl (E 0, 29, .inl (upd (pgF (wR (wI S ((sI S) + 1)) ((sR (wI S ((sI S) + 1))) + 1))) 1 1))), (ff, .inl (E 1, 5, .inr (.inr (.inl (fl5 S)))))] H locs := hw
      rw [pg_M] at hw
      have hw : g_W D A s [(o, .inr (6, [u0, u1, u2, .ref xa, u4, u5, u6, u7, u8, u9, u10, u11, u12, u13, u14, u15, u16, u17, u18, u19, u20, u21, u22, u23, u24, u25, u26, .ref wa, .ref la, .ref ta, .int (cS nw x S), .int (neF (sD S) (FP.i2f (sT S 1)) (aiF (sF S) (eS nw x S) (cS nw x S)) 4), .float (heF (sD S) (aiF (sF S) (eS nw x S) (cS nw x S)) 4), u33, u34, .ref sa])), (xa, .inl (E 0, 12, .inl (g_tv 0))), (wa, .inl (E 0, 3, .inl (wnF nw x S))), (la, .inl (E 1, 4, .inr (.inr (.inl (amP (sD S) (aiF (sF S) (eS nw x S) (cS nw x S)) (sF S) 4))))), (ta, .inl (E 1, 4, .inr (.inr (.inl (amP (sD S) (aiF (sF S) (eS nw x S) (g_tv 1 (lpN (sD S)))) (sF S) 4))))), (sa, .inl (E 0, 9, .inl (g_tv 1))), (pp, .inl (E 0, 29, .inl (pgF (wM (wR (wI S ((sI S) + 1)) ((sR (wI S ((sI S) + 1))) + 1)) 1)))), (ff, .inl (E 1, 5, .inr (.inr (.inl (fl5 S)))))] H locs := hw
      refine lv_aload_n hx hb dX6_turnWheels_44 rfl (lv_at hl 1 rfl) ?_
      refine lv_iconst (v := 5) hx hb dX6_turnWheels_45 (by decide) ?_
      refine lv_iconst (v := 0) hx hb dX6_turnWheels_46 (by decide) ?_
      refine g_ist hc hw 6 5 rfl rfl (by omega) (by decide) dX6_turnWheels_47 (fun H locs hw => ?_)
      have hw : g_W D A s [(o, .inr (6, [u0, u1, u2, .ref xa, u4, u5, u6, u7, u8, u9, u10, u11, u12, u13, u14, u15, u16, u17, u18, u19, u20, u21, u22, u23, u24, u25, u26, .ref wa, .ref la, .ref ta, .int (cS nw x S), .int (neF (sD S) (FP.i2f (sT S 1)) (aiF (sF S) (eS nw x S) (cS nw x S)) 4), .float (heF (sD S) (aiF (sF S) (eS nw x S) (cS nw x S)) 4), u33, u34, .ref sa])), (xa, .inl (E 0, 12, .inl (g_tv 0))), (wa, .inl (E 0, 3, .inl (wnF nw x S))), (la, .inl (E 1, 4, .inr (.inr (.inl (amP (sD S) (aiF (sF S) (eS nw x S) (cS nw x S)) (sF S) 4))))), (ta, .inl (E 1, 4, .inr (.inr (.inl (amP (sD S) (aiF (sF S) (eS nw x S) (g_tv 1 (lpN (sD S)))) (sF S) 4))))), (sa, .inl (E 0, 9, .inl (g_tv 1))), (pp, .inl (E 0, 29, .inl (upd (pgF (wM (wR (wI S ((sI S) + 1)) ((sR (wI S ((sI S) + 1))) + 1)) 1)) 5 0))), (ff, .inl (E 1, 5, .inr (.inr (.inl (fl5 S)))))] H locs := hw
      rw [pg_R] at hw
      have hw : g_W D A s [(o, .inr (6, [u0, u1, u2, .ref xa, u4, u5, u6, u7, u8, u9, u10, u11, u12, u13, u14, u15, u16, u17, u18, u19, u20, u21, u22, u23, u24, u25, u26, .ref wa, .ref la, .ref ta, .int (cS nw x S), .int (neF (sD S) (FP.i2f (sT S 1)) (aiF (sF S) (eS nw x S) (cS nw x S)) 4), .float (heF (sD S) (aiF (sF S) (eS nw x S) (cS nw x S)) 4), u33, u34, .ref sa])), (xa, .inl (E 0, 12, .inl (g_tv 0))), (wa, .inl (E 0, 3, .inl (wnF nw x S))), (la, .inl (E 1, 4, .inr (.inr (.inl (amP (sD S) (aiF (sF S) (eS nw x S) (cS nw x S)) (sF S) 4))))), (ta, .inl (E 1, 4, .inr (.inr (.inl (amP (sD S) (aiF (sF S) (eS nw x S) (g_tv 1 (lpN (sD S)))) (sF S) 4))))), (sa, .inl (E 0, 9, .inl (g_tv 1))), (pp, .inl (E 0, 29, .inl (pgF (wR (wM (wR (wI S ((sI S) + 1)) ((sR (wI S ((sI S) + 1))) + 1)) 1) 0)))), (ff, .inl (E 1, 5, .inr (.inr (.inl (fl5 S)))))] H locs := hw
      exact g_vret hQ hc hw hr rfl (by rw [t1W_m2 hb0 c_37]; rfl) dX6_turnWheels_48

theorem dX6_layMomentum_0 : decode cX6_layMomentum 0 = .ok (.iconst 0, 1) := by decide +kernel
theorem dX6_layMomentum_1 : decode cX6_layMomentum 1 = .ok (.istore_n 2, 1) := by decide +kernel
theorem dX6_layMomentum_2 : decode cX6_layMomentum 2 = .ok (.iload_n 2, 1) := by decide +kernel
theorem dX6_layMomentum_3 : decode cX6_layMomentum 3 = .ok (.iconst 3, 1) := by decide +kernel
theorem dX6_layMomentum_4 : decode cX6_layMomentum 4 = .ok (.if_icmp .ge 70, 3) := by decide +kernel
theorem dX6_layMomentum_7 : decode cX6_layMomentum 7 = .ok (.aload_n 0, 1) := by decide +kernel
theorem dX6_layMomentum_8 : decode cX6_layMomentum 8 = .ok (.getfield 75, 3) := by decide +kernel
theorem dX6_layMomentum_11 : decode cX6_layMomentum 11 = .ok (.iload_n 2, 1) := by decide +kernel
theorem dX6_layMomentum_12 : decode cX6_layMomentum 12 = .ok (.aload_n 0, 1) := by decide +kernel
theorem dX6_layMomentum_13 : decode cX6_layMomentum 13 = .ok (.getfield 13, 3) := by decide +kernel
theorem dX6_layMomentum_16 : decode cX6_layMomentum 16 = .ok (.iload_n 2, 1) := by decide +kernel
theorem dX6_layMomentum_17 : decode cX6_layMomentum 17 = .ok (.iaload, 1) := by decide +kernel
theorem dX6_layMomentum_18 : decode cX6_layMomentum 18 = .ok (.i2f, 1) := by decide +kernel
theorem dX6_layMomentum_19 : decode cX6_layMomentum 19 = .ok (.aload_n 1, 1) := by decide +kernel
theorem dX6_layMomentum_20 : decode cX6_layMomentum 20 = .ok (.iconst 0, 1) := by decide +kernel
theorem dX6_layMomentum_21 : decode cX6_layMomentum 21 = .ok (.faload, 1) := by decide +kernel
theorem dX6_layMomentum_22 : decode cX6_layMomentum 22 = .ok (.fmul, 1) := by decide +kernel
theorem dX6_layMomentum_23 : decode cX6_layMomentum 23 = .ok (.aload_n 0, 1) := by decide +kernel
theorem dX6_layMomentum_24 : decode cX6_layMomentum 24 = .ok (.getfield 13, 3) := by decide +kernel
theorem dX6_layMomentum_27 : decode cX6_layMomentum 27 = .ok (.iconst 3, 1) := by decide +kernel
theorem dX6_layMomentum_28 : decode cX6_layMomentum 28 = .ok (.iload_n 2, 1) := by decide +kernel
theorem dX6_layMomentum_29 : decode cX6_layMomentum 29 = .ok (.iadd, 1) := by decide +kernel
theorem dX6_layMomentum_30 : decode cX6_layMomentum 30 = .ok (.iaload, 1) := by decide +kernel
theorem dX6_layMomentum_31 : decode cX6_layMomentum 31 = .ok (.i2f, 1) := by decide +kernel
theorem dX6_layMomentum_32 : decode cX6_layMomentum 32 = .ok (.aload_n 1, 1) := by decide +kernel
theorem dX6_layMomentum_33 : decode cX6_layMomentum 33 = .ok (.iconst 1, 1) := by decide +kernel
theorem dX6_layMomentum_34 : decode cX6_layMomentum 34 = .ok (.faload, 1) := by decide +kernel
theorem dX6_layMomentum_35 : decode cX6_layMomentum 35 = .ok (.fmul, 1) := by decide +kernel
theorem dX6_layMomentum_36 : decode cX6_layMomentum 36 = .ok (.fadd, 1) := by decide +kernel
theorem dX6_layMomentum_37 : decode cX6_layMomentum 37 = .ok (.aload_n 0, 1) := by decide +kernel
theorem dX6_layMomentum_38 : decode cX6_layMomentum 38 = .ok (.getfield 13, 3) := by decide +kernel
theorem dX6_layMomentum_41 : decode cX6_layMomentum 41 = .ok (.bipush 6, 2) := by decide +kernel
theorem dX6_layMomentum_43 : decode cX6_layMomentum 43 = .ok (.iload_n 2, 1) := by decide +kernel
theorem dX6_layMomentum_44 : decode cX6_layMomentum 44 = .ok (.iadd, 1) := by decide +kernel
theorem dX6_layMomentum_45 : decode cX6_layMomentum 45 = .ok (.iaload, 1) := by decide +kernel
theorem dX6_layMomentum_46 : decode cX6_layMomentum 46 = .ok (.i2f, 1) := by decide +kernel
theorem dX6_layMomentum_47 : decode cX6_layMomentum 47 = .ok (.aload_n 1, 1) := by decide +kernel
theorem dX6_layMomentum_48 : decode cX6_layMomentum 48 = .ok (.iconst 2, 1) := by decide +kernel
theorem dX6_layMomentum_49 : decode cX6_layMomentum 49 = .ok (.faload, 1) := by decide +kernel
theorem dX6_layMomentum_50 : decode cX6_layMomentum 50 = .ok (.fmul, 1) := by decide +kernel
theorem dX6_layMomentum_51 : decode cX6_layMomentum 51 = .ok (.fadd, 1) := by decide +kernel
theorem dX6_layMomentum_52 : decode cX6_layMomentum 52 = .ok (.aload_n 0, 1) := by decide +kernel
theorem dX6_layMomentum_53 : decode cX6_layMomentum 53 = .ok (.getfield 13, 3) := by decide +kernel
theorem dX6_layMomentum_56 : decode cX6_layMomentum 56 = .ok (.bipush 9, 2) := by decide +kernel
theorem dX6_layMomentum_58 : decode cX6_layMomentum 58 = .ok (.iload_n 2, 1) := by decide +kernel
theorem dX6_layMomentum_59 : decode cX6_layMomentum 59 = .ok (.iadd, 1) := by decide +kernel
theorem dX6_layMomentum_60 : decode cX6_layMomentum 60 = .ok (.iaload, 1) := by decide +kernel
theorem dX6_layMomentum_61 : decode cX6_layMomentum 61 = .ok (.i2f, 1) := by decide +kernel
theorem dX6_layMomentum_62 : decode cX6_layMomentum 62 = .ok (.aload_n 1, 1) := by decide +kernel
theorem dX6_layMomentum_63 : decode cX6_layMomentum 63 = .ok (.iconst 3, 1) := by decide +kernel
theorem dX6_layMomentum_64 : decode cX6_layMomentum 64 = .ok (.faload, 1) := by decide +kernel
theorem dX6_layMomentum_65 : decode cX6_layMomentum 65 = .ok (.fmul, 1) := by decide +kernel
theorem dX6_layMomentum_66 : decode cX6_layMomentum 66 = .ok (.fadd, 1) := by decide +kernel
theorem dX6_layMomentum_67 : decode cX6_layMomentum 67 = .ok (.fastore, 1) := by decide +kernel
theorem dX6_layMomentum_68 : decode cX6_layMomentum 68 = .ok (.iinc 2 1, 3) := by decide +kernel
theorem dX6_layMomentum_71 : decode cX6_layMomentum 71 = .ok (.goto (-69), 3) := by decide +kernel
theorem dX6_layMomentum_74 : decode cX6_layMomentum 74 = .ok (.return_, 1) := by decide +kernel
theorem inX6_layMomentum_X6 : ∀ w ∈ u_ws RX6 TX6 36, w ∈ wsX6_layMomentum := fun w h => List.mem_cons_of_mem _ (List.mem_append_right _ h)
set_option maxRecDepth 100000 in
set_option maxHeartbeats 4000000 in
theorem m_X6_layMomentum {l : Launch} {D : va_G} {E : Nat → ClassId} {T : Nat → Nat} (o : Nat) (xa : Nat) (ma : Nat) (ff : Nat) (B : Nat) (u0 : Value) (u1 : Value) (u2 : Value) (u4 : Value) (u5 : Value) (u6 : Value) (u7 : Value) (u8 : Value) (u9 : Value) (u10 : Value) (u11 : Value) (u12 : Value) (u13 : Value) (u14 : Value) (u15 : Value) (u16 : Value) (u17 : Value) (u18 : Value) (u19 : Value) (u20 : Value) (u21 : Value) (u22 : Value) (u23 : Value) (u24 : Value) (u25 : Value) (u26 : Value) (u27 : Value) (u28 : Value) (u29 : Value) (u30 : Value) (u31 : Value) (u32 : Value) (u34 : Value) (u35 : Value) (S : TS) (g : Nat → UInt32) (hok : OkS B S) : g_M l D E T yX6_layMomentum wsX6_layMomentum 0 0 [.ref o, .ref ff] [(o, .inr (6, [u0, u1, u2, .ref xa, u4, u5, u6, u7, u8, u9, u10, u11, u12, u13, u14, u15, u16, u17, u18, u19, u20, u21, u22, u23, u24, u25, u26, u27, u28, u29, u30, u31, u32, .ref ma, u34, u35])), (xa, .inl (E 0, 12, .inl (g_tv 0))), (ma, .inl (E 1, 3, .inr (.inr (.inl g)))), (ff, .inl (E 1, 5, .inr (.inr (.inl (fl5 S)))))] [(o, .inr (6, [u0, u1, u2, .ref xa, u4, u5, u6, u7, u8, u9, u10, u11, u12, u13, u14, u15, u16, u17, u18, u19, u20, u21, u22, u23, u24, u25, u26, u27, u28, u29, u30, u31, u32, .ref ma, u34, u35])), (xa, .inl (E 0, 12, .inl (g_tv 0))), (ma, .inl (E 1, 3, .inr (.inr (.inl (moF (sF S)))))), (ff, .inl (E 1, 5, .inr (.inr (.inl (fl5 S)))))] none := by
  refine g_M.of (cc := cX6_layMomentum) (nL := 3) (ret := none) (own := RX6) (lv := [(0, .ref o), (1, .ref ff)]) (by decide) rfl rfl (Nat.le_of_ble_eq_true rfl) rfl ?_
  intro p e R s m args below meth c A Q H locs ls hR hQ hc hr hw hl
  have hx := hc.1
  have hb := hc.2.1
  have hts := hc.2.2.2.1
  have hown := hc.2.2.2.2.1
  refine lv_iconst (v := 0) hx hb dX6_layMomentum_0 (by decide) ?_
  refine lv_istore_n (lv' := [(2, .int 0), (0, .ref o), (1, .ref ff)]) hx hb dX6_layMomentum_1 rfl hl (by decide) rfl (fun ls hl => ?_)
  have J2 : ∀ (k9 : Nat) (i : Nat), i + k9 = 3 → ∀ (H : Heap) (locs : List Loc) (ls : Array Slot), g_W D A s [(o, .inr (6, [u0, u1, u2, .ref xa, u4, u5, u6, u7, u8, u9, u10, u11, u12, u13, u14, u15, u16, u17, u18, u19, u20, u21, u22, u23, u24, u25, u26, u27, u28, u29, u30, u31, u32, .ref ma, u34, u35])), (xa, .inl (E 0, 12, .inl (g_tv 0))), (ma, .inl (E 1, 3, .inr (.inr (.inl (cpF (moF (sF S)) g i))))), (ff, .inl (E 1, 5, .inr (.inr (.inl (fl5 S)))))] H locs → lv_has ls 3 [(0, .ref o), (1, .ref ff), (2, .int (nI i))] → W p l e R s m args below meth c H locs 0 0 Q (F0 m 2 ls []) := by
    intro k9
    induction k9 with
    | zero =>
      intro i h9   H locs ls hw hl
      have h9 : i = 3 := h9
      subst h9
      refine lv_iload_n hx hb dX6_layMomentum_2 rfl (lv_at hl 2 rfl) ?_
      refine lv_iconst (v := 3) hx hb dX6_layMomentum_3 (by decide) ?_
      refine lv_icmp_ge (tgt := 74) hx hb dX6_layMomentum_4 (by decide) (fun c_4 => ?_) (fun c_4 => absurd (by first | exact Int32.le_refl _ | decide) c_4)
      have hw := g_reF (q0 := 2) (g := moF (sF S)) hw rfl (cpF_n _ g 3)
      have hw : g_W D A s [(o, .inr (6, [u0, u1, u2, .ref xa, u4, u5, u6, u7, u8, u9, u10, u11, u12, u13, u14, u15, u16, u17, u18, u19, u20, u21, u22, u23, u24, u25, u26, u27, u28, u29, u30, u31, u32, .ref ma, u34, u35])), (xa, .inl (E 0, 12, .inl (g_tv 0))), (ma, .inl (E 1, 3, .inr (.inr (.inl (moF (sF S)))))), (ff, .inl (E 1, 5, .inr (.inr (.inl (fl5 S)))))] H locs := hw
      exact g_vret hQ hc hw hr rfl rfl dX6_layMomentum_74
    | succ k9 ih =>
      intro i h9   H locs ls hw hl
      have h9b : i < 3 := by omega
      refine lv_iload_n hx hb dX6_layMomentum_2 rfl (lv_at hl 2 rfl) ?_
      refine lv_iconst (v := 3) hx hb dX6_layMomentum_3 (by decide) ?_
      refine lv_icmp_ge (tgt := 74) hx hb dX6_layMomentum_4 (by decide) (fun c_4 => absurd c_4 (nI_ge h9b (by decide))) (fun c_4 => ?_)
      refine lv_aload_n hx hb dX6_layMomentum_7 rfl (lv_at hl 0 rfl) ?_
      refine g_get (TT := TX6) hc hw inX6_layMomentum_X6 0 33 1 rfl rfl (by decide) rfl rfl dX6_layMomentum_8 ?_
      refine lv_iload_n hx hb dX6_layMomentum_11 rfl (lv_at hl 2 rfl) ?_
      refine lv_aload_n hx hb dX6_layMomentum_12 rfl (lv_at hl 0 rfl) ?_
      refine g_get (TT := TX6) hc hw inX6_layMomentum_X6 0 3 2 rfl rfl (by decide) rfl rfl dX6_layMomentum_13 ?_
      refine lv_iload_n hx hb dX6_layMomentum_16 rfl (lv_at hl 2 rfl) ?_
      refine g_ild hc hw 1 i rfl rfl (by omega) (by decide) dX6_layMomentum_17 ?_
      refine lv_i2f hx hb dX6_layMomentum_18 ?_
      refine lv_aload_n hx hb dX6_layMomentum_19 rfl (lv_at hl 1 rfl) ?_
      refine lv_iconst (v := 0) hx hb dX6_layMomentum_20 (by decide) ?_
      refine g_fld hc hw 3 0 rfl rfl (by omega) (by decide) dX6_layMomentum_21 ?_
      refine W.eq (congrArg (fun z => F0 m 22 ls (.float z :: [.float (FP.i2f (g_tv 0 i)), .int (nI i), .ref ma])) (show ((fl5 S) 0 : UInt32) = sF S 0 from (fl5_lt _ (by omega)))) ?_
      refine lv_fmul hx hb dX6_layMomentum_22 (g_nn (g_mgmul (Ka := 128) (Kb := 135) (K := 137) (g_mgax _ (by omega)) (g_mgE (fl5_lt _ (by omega)).symm (fl_mg hok 0 (by omega))) (by decide) (by decide)) (by decide)) ?_
      refine lv_aload_n hx hb dX6_layMomentum_23 rfl (lv_at hl 0 rfl) ?_
      refine g_get (TT := TX6) hc hw inX6_layMomentum_X6 0 3 2 rfl rfl (by decide) rfl rfl dX6_layMomentum_24 ?_
      refine lv_iconst (v := 3) hx hb dX6_layMomentum_27 (by decide) ?_
      refine lv_iload_n hx hb dX6_layMomentum_28 rfl (lv_at hl 2 rfl) ?_
      refine lv_iadd hx hb dX6_layMomentum_29 ?_
      refine g_ild hc hw 1 (3 + i) rfl (n_add rfl rfl) (by omega) (by decide) dX6_layMomentum_30 ?_
      refine lv_i2f hx hb dX6_layMomentum_31 ?_
      refine lv_aload_n hx hb dX6_layMomentum_32 rfl (lv_at hl 1 rfl) ?_
      refine lv_iconst (v := 1) hx hb dX6_layMomentum_33 (by decide) ?_
      refine g_fld hc hw 3 1 rfl rfl (by omega) (by decide) dX6_layMomentum_34 ?_
      refine W.eq (congrArg (fun z => F0 m 35 ls (.float z :: [.float (FP.i2f (g_tv 0 (3 + i))), .float (FP.fmul (FP.i2f (g_tv 0 i)) (sF S 0)), .int (nI i), .ref ma])) (show ((fl5 S) 1 : UInt32) = sF S 1 from (fl5_lt _ (by omega)))) ?_
      refine lv_fmul hx hb dX6_layMomentum_35 (g_nn (g_mgmul (Ka := 128) (Kb := 135) (K := 137) (g_mgax _ (by omega)) (g_mgE (fl5_lt _ (by omega)).symm (fl_mg hok 1 (by omega))) (by decide) (by decide)) (by decide)) ?_
      refine lv_fadd hx hb dX6_layMomentum_36 (g_nn (g_mgadd (Ka := 137) (Kb := 137) (K := 137) (g_mgmul (Ka := 128) (Kb := 135) (K := 137) (g_mgax _ (by omega)) (g_mgE (fl5_lt _ (by omega)).symm (fl_mg hok 0 (by omega))) (by decide) (by decide)) (g_mgmul (Ka := 128) (Kb := 135) (K := 137) (g_mgax _ (by omega)) (g_mgE (fl5_lt _ (by omega)).symm (fl_mg hok 1 (by omega))) (by decide) (by decide)) (by decide) (by decide) (by decide)) (by decide)) ?_
      refine lv_aload_n hx hb dX6_layMomentum_37 rfl (lv_at hl 0 rfl) ?_
      refine g_get (TT := TX6) hc hw inX6_layMomentum_X6 0 3 2 rfl rfl (by decide) rfl rfl dX6_layMomentum_38 ?_
      refine lv_bipush (v := 6) hx hb dX6_layMomentum_41 (by decide) ?_
      refine lv_iload_n hx hb dX6_layMomentum_43 rfl (lv_at hl 2 rfl) ?_
      refine lv_iadd hx hb dX6_layMomentum_44 ?_
      refine g_ild hc hw 1 (6 + i) rfl (n_add rfl rfl) (by omega) (by decide) dX6_layMomentum_45 ?_
      refine lv_i2f hx hb dX6_layMomentum_46 ?_
      refine lv_aload_n hx hb dX6_layMomentum_47 rfl (lv_at hl 1 rfl) ?_
      refine lv_iconst (v := 2) hx hb dX6_layMomentum_48 (by decide) ?_
      refine g_fld hc hw 3 2 rfl rfl (by omega) (by decide) dX6_layMomentum_49 ?_
      refine W.eq (congrArg (fun z => F0 m 50 ls (.float z :: [.float (FP.i2f (g_tv 0 (6 + i))), .float (FP.fadd (FP.fmul (FP.i2f (g_tv 0 i)) (sF S 0)) (FP.fmul (FP.i2f (g_tv 0 (3 + i))) (sF S 1))), .int (nI i), .ref ma])) (show ((fl5 S) 2 : UInt32) = sF S 2 from (fl5_lt _ (by omega)))) ?_
      refine lv_fmul hx hb dX6_layMomentum_50 (g_nn (g_mgmul (Ka := 128) (Kb := 135) (K := 137) (g_mgax _ (by omega)) (g_mgE (fl5_lt _ (by omega)).symm (fl_mg hok 2 (by omega))) (by decide) (by decide)) (by decide)) ?_
      refine lv_fadd hx hb dX6_layMomentum_51 (g_nn (g_mgadd (Ka := 139) (Kb := 137) (K := 139) (g_mgadd (Ka := 137) (Kb := 137) (K := 137) (g_mgmul (Ka := 128) (Kb := 135) (K := 137) (g_mgax _ (by omega)) (g_mgE (fl5_lt _ (by omega)).symm (fl_mg hok 0 (by omega))) (by decide) (by decide)) (g_mgmul (Ka := 128) (Kb := 135) (K := 137) (g_mgax _ (by omega)) (g_mgE (fl5_lt _ (by omega)).symm (fl_mg hok 1 (by omega))) (by decide) (by decide)) (by decide) (by decide) (by decide)) (g_mgmul (Ka := 128) (Kb := 135) (K := 137) (g_mgax _ (by omega)) (g_mgE (fl5_lt _ (by omega)).symm (fl_mg hok 2 (by omega))) (by decide) (by decide)) (by decide) (by decide) (by decide)) (by decide)) ?_
      refine lv_aload_n hx hb dX6_layMomentum_52 rfl (lv_at hl 0 rfl) ?_
      refine g_get (TT := TX6) hc hw inX6_layMomentum_X6 0 3 2 rfl rfl (by decide) rfl rfl dX6_layMomentum_53 ?_
      refine lv_bipush (v := 9) hx hb dX6_layMomentum_56 (by decide) ?_
      refine lv_iload_n hx hb dX6_layMomentum_58 rfl (lv_at hl 2 rfl) ?_
      refine lv_iadd hx hb dX6_layMomentum_59 ?_
      refine g_ild hc hw 1 (9 + i) rfl (n_add rfl rfl) (by omega) (by decide) dX6_layMomentum_60 ?_
      refine lv_i2f hx hb dX6_layMomentum_61 ?_
      refine lv_aload_n hx hb dX6_layMomentum_62 rfl (lv_at hl 1 rfl) ?_
      refine lv_iconst (v := 3) hx hb dX6_layMomentum_63 (by decide) ?_
      refine g_fld hc hw 3 3 rfl rfl (by omega) (by decide) dX6_layMomentum_64 ?_
      refine W.eq (congrArg (fun z => F0 m 65 ls (.float z :: [.float (FP.i2f (g_tv 0 (9 + i))), .float (FP.fadd (FP.fadd (FP.fmul (FP.i2f (g_tv 0 i)) (sF S 0)) (FP.fmul (FP.i2f (g_tv 0 (3 + i))) (sF S 1))) (FP.fmul (FP.i2f (g_tv 0 (6 + i))) (sF S 2))), .int (nI i), .ref ma])) (show ((fl5 S) 3 : UInt32) = sF S 3 from (fl5_lt _ (by omega)))) ?_
      refine lv_fmul hx hb dX6_layMomentum_65 (g_nn (g_mgmul (Ka := 128) (Kb := 135) (K := 137) (g_mgax _ (by omega)) (g_mgE (fl5_lt _ (by omega)).symm (fl_mg hok 3 (by omega))) (by decide) (by decide)) (by decide)) ?_
      refine lv_fadd hx hb dX6_layMomentum_66 (g_nn (g_mgadd (Ka := 141) (Kb := 137) (K := 141) (g_mgadd (Ka := 139) (Kb := 137) (K := 139) (g_mgadd (Ka := 137) (Kb := 137) (K := 137) (g_mgmul (Ka := 128) (Kb := 135) (K := 137) (g_mgax _ (by omega)) (g_mgE (fl5_lt _ (by omega)).symm (fl_mg hok 0 (by omega))) (by decide) (by decide)) (g_mgmul (Ka := 128) (Kb := 135) (K := 137) (g_mgax _ (by omega)) (g_mgE (fl5_lt _ (by omega)).symm (fl_mg hok 1 (by omega))) (by decide) (by decide)) (by decide) (by decide) (by decide)) (g_mgmul (Ka := 128) (Kb := 135) (K := 137) (g_mgax _ (by omega)) (g_mgE (fl5_lt _ (by omega)).symm (fl_mg hok 2 (by omega))) (by decide) (by decide)) (by decide) (by decide) (by decide)) (g_mgmul (Ka := 128) (Kb := 135) (K := 137) (g_mgax _ (by omega)) (g_mgE (fl5_lt _ (by omega)).symm (fl_mg hok 3 (by omega))) (by decide) (by decide)) (by decide) (by decide) (by decide)) (by decide)) ?_
      refine g_fst hc hw 2 i rfl rfl (by omega) (by decide) dX6_layMomentum_67 (fun H locs hw => ?_)
      have hw : g_W D A s [(o, .inr (6, [u0, u1, u2, .ref xa, u4, u5, u6, u7, u8, u9, u10, u11, u12, u13, u14, u15, u16, u17, u18, u19, u20, u21, u22, u23, u24, u25, u26, u27, u28, u29, u30, u31, u32, .ref ma, u34, u35])), (xa, .inl (E 0, 12, .inl (g_tv 0))), (ma, .inl (E 1, 3, .inr (.inr (.inl (vf_upd (cpF (moF (sF S)) g i) i (FP.fadd (FP.fadd (FP.fadd (FP.fmul (FP.i2f (g_tv 0 i)) (sF S 0)) (FP.fmul (FP.i2f (g_tv 0 (3 + i))) (sF S 1))) (FP.fmul (FP.i2f (g_tv 0 (6 + i))) (sF S 2))) (FP.fmul (FP.i2f (g_tv 0 (9 + i))) (sF S 3)))))))), (ff, .inl (E 1, 5, .inr (.inr (.inl (fl5 S)))))] H locs := hw
      refine lv_iinc (v := nI (i + 1)) (lv' := [(2, .int (nI (i + 1))), (0, .ref o), (1, .ref ff)]) hx hb dX6_layMomentum_68 hl (k := 2) rfl (n_inc1 rfl) (by decide) rfl (fun ls hl => ?_)
      refine lv_goto (tgt := 2) hx hb dX6_layMomentum_71 (by decide) ?_
      have hw : g_W D A s [(o, .inr (6, [u0, u1, u2, .ref xa, u4, u5, u6, u7, u8, u9, u10, u11, u12, u13, u14, u15, u16, u17, u18, u19, u20, u21, u22, u23, u24, u25, u26, u27, u28, u29, u30, u31, u32, .ref ma, u34, u35])), (xa, .inl (E 0, 12, .inl (g_tv 0))), (ma, .inl (E 1, 3, .inr (.inr (.inl (cpF (moF (sF S)) g (i + 1)))))), (ff, .inl (E 1, 5, .inr (.inr (.inl (fl5 S)))))] H locs := by
        have e2 : (vf_upd (cpF (moF (sF S)) g i) i (FP.fadd (FP.fadd (FP.fadd (FP.fmul (FP.i2f (g_tv 0 i)) (sF S 0)) (FP.fmul (FP.i2f (g_tv 0 (3 + i))) (sF S 1))) (FP.fmul (FP.i2f (g_tv 0 (6 + i))) (sF S 2))) (FP.fmul (FP.i2f (g_tv 0 (9 + i))) (sF S 3)))) = (cpF (moF (sF S)) g (i + 1)) := by exact cpF_s g rfl
        rw [e2] at hw
        exact hw
      exact ih (i + 1) (by omega)   _ _ _ hw (lv_sub hl [1, 2, 0] rfl)
  have hw : g_W D A s [(o, .inr (6, [u0, u1, u2, .ref xa, u4, u5, u6, u7, u8, u9, u10, u11, u12, u13, u14, u15, u16, u17, u18, u19, u20, u21, u22, u23, u24, u25, u26, u27, u28, u29, u30, u31, u32, .ref ma, u34, u35])), (xa, .inl (E 0, 12, .inl (g_tv 0))), (ma, .inl (E 1, 3, .inr (.inr (.inl (cpF (moF (sF S)) g 0))))), (ff, .inl (E 1, 5, .inr (.inr (.inl (fl5 S)))))] H locs := by
    have e2 : g = (cpF (moF (sF S)) g 0) := by exact cpF_0 _ g
    rw [e2] at hw
    exact hw
  exact J2 3 0 (by omega)   _ _ _ hw (lv_sub hl [1, 2, 0] rfl)

theorem dX6_held_0 : decode cX6_held 0 = .ok (.fload_n 0, 1) := by decide +kernel
theorem dX6_held_1 : decode cX6_held 1 = .ok (.iload_n 1, 1) := by decide +kernel
theorem dX6_held_2 : decode cX6_held 2 = .ok (.i2f, 1) := by decide +kernel
theorem dX6_held_3 : decode cX6_held 3 = .ok (.fcmp .l, 1) := by decide +kernel
theorem dX6_held_4 : decode cX6_held 4 = .ok (.ifCond .le 8, 3) := by decide +kernel
theorem dX6_held_7 : decode cX6_held 7 = .ok (.iload_n 1, 1) := by decide +kernel
theorem dX6_held_8 : decode cX6_held 8 = .ok (.i2f, 1) := by decide +kernel
theorem dX6_held_9 : decode cX6_held 9 = .ok (.goto 18, 3) := by decide +kernel
theorem dX6_held_12 : decode cX6_held 12 = .ok (.fload_n 0, 1) := by decide +kernel
theorem dX6_held_13 : decode cX6_held 13 = .ok (.iload_n 1, 1) := by decide +kernel
theorem dX6_held_14 : decode cX6_held 14 = .ok (.ineg, 1) := by decide +kernel
theorem dX6_held_15 : decode cX6_held 15 = .ok (.i2f, 1) := by decide +kernel
theorem dX6_held_16 : decode cX6_held 16 = .ok (.fcmp .g, 1) := by decide +kernel
theorem dX6_held_17 : decode cX6_held 17 = .ok (.ifCond .ge 9, 3) := by decide +kernel
theorem dX6_held_20 : decode cX6_held 20 = .ok (.iload_n 1, 1) := by decide +kernel
theorem dX6_held_21 : decode cX6_held 21 = .ok (.ineg, 1) := by decide +kernel
theorem dX6_held_22 : decode cX6_held 22 = .ok (.i2f, 1) := by decide +kernel
theorem dX6_held_23 : decode cX6_held 23 = .ok (.goto 4, 3) := by decide +kernel
theorem dX6_held_26 : decode cX6_held 26 = .ok (.fload_n 0, 1) := by decide +kernel
theorem dX6_held_27 : decode cX6_held 27 = .ok (.freturn, 1) := by decide +kernel
set_option maxRecDepth 100000 in
set_option maxHeartbeats 4000000 in
theorem m_X6_held {l : Launch} {D : va_G} {E : Nat → ClassId} {T : Nat → Nat} (v : UInt32) (mx : Int32)  : g_M l D E T yX6_held wsX6_held 0 0 [.float v, .int mx] [] [] (some (.float (limF v mx))) := by
  refine g_M.of (cc := cX6_held) (nL := 2) (ret := (some .float)) (own := RX6) (lv := [(0, .float v), (1, .int mx)]) (by decide) rfl rfl (Nat.le_of_ble_eq_true rfl) rfl ?_
  intro p e R s m args below meth c A Q H locs ls hR hQ hc hr hw hl
  have hx := hc.1
  have hb := hc.2.1
  have hts := hc.2.2.2.1
  have hown := hc.2.2.2.2.1
  refine lv_fload_n hx hb dX6_held_0 rfl (lv_at hl 0 rfl) ?_
  refine lv_iload_n hx hb dX6_held_1 rfl (lv_at hl 1 rfl) ?_
  refine lv_i2f hx hb dX6_held_2 ?_
  refine lv_fcmp hx hb dX6_held_3 ?_
  refine lv_if_le (tgt := 12) hx hb dX6_held_4 (by decide) (fun c_4 => ?_) (fun c_4 => ?_)
  · skip
    have k_4 := g_clg c_4
    refine lv_fload_n hx hb dX6_held_12 rfl (lv_at hl 0 rfl) ?_
    refine lv_iload_n hx hb dX6_held_13 rfl (lv_at hl 1 rfl) ?_
    refine lv_ineg hx hb dX6_held_14 ?_
    refine lv_i2f hx hb dX6_held_15 ?_
    refine lv_fcmp hx hb dX6_held_16 ?_
    refine lv_if_ge (tgt := 26) hx hb dX6_held_17 (by decide) (fun c_17 => ?_) (fun c_17 => ?_)
    · skip
      have k_17 := g_cgl c_17
      refine lv_fload_n hx hb dX6_held_26 rfl (lv_at hl 0 rfl) ?_
      exact g_fret hQ hc hw hr (by exact congrArg (fun z => some (Value.float z)) (by simp [limF, k_4, k_17])) rfl dX6_held_27
    · skip
      have k_17 := g_cgt c_17
      refine lv_iload_n hx hb dX6_held_20 rfl (lv_at hl 1 rfl) ?_
      refine lv_ineg hx hb dX6_held_21 ?_
      refine lv_i2f hx hb dX6_held_22 ?_
      refine lv_goto (tgt := 27) hx hb dX6_held_23 (by decide) ?_
      exact g_fret hQ hc hw hr (by exact congrArg (fun z => some (Value.float z)) (by simp [limF, k_4, k_17])) rfl dX6_held_27
  · skip
    have k_4 := g_clt c_4
    refine lv_iload_n hx hb dX6_held_7 rfl (lv_at hl 1 rfl) ?_
    refine lv_i2f hx hb dX6_held_8 ?_
    refine lv_goto (tgt := 27) hx hb dX6_held_9 (by decide) ?_
    exact g_fret hQ hc hw hr (by exact congrArg (fun z => some (Value.float z)) (by simp [limF, k_4])) rfl dX6_held_27

theorem dX6_coil_0 : decode cX6_coil 0 = .ok (.aload_n 0, 1) := by decide +kernel
theorem dX6_coil_1 : decode cX6_coil 1 = .ok (.getfield 133, 3) := by decide +kernel
theorem dX6_coil_4 : decode cX6_coil 4 = .ok (.ifCond .ne 7, 3) := by decide +kernel
theorem dX6_coil_7 : decode cX6_coil 7 = .ok (.iconst 0, 1) := by decide +kernel
theorem dX6_coil_8 : decode cX6_coil 8 = .ok (.goto 19, 3) := by decide +kernel
theorem dX6_coil_11 : decode cX6_coil 11 = .ok (.aload_n 0, 1) := by decide +kernel
theorem dX6_coil_12 : decode cX6_coil 12 = .ok (.getfield 16, 3) := by decide +kernel
theorem dX6_coil_15 : decode cX6_coil 15 = .ok (.iconst 3, 1) := by decide +kernel
theorem dX6_coil_16 : decode cX6_coil 16 = .ok (.aload_n 1, 1) := by decide +kernel
theorem dX6_coil_17 : decode cX6_coil 17 = .ok (.bipush 6, 2) := by decide +kernel
theorem dX6_coil_19 : decode cX6_coil 19 = .ok (.iaload, 1) := by decide +kernel
theorem dX6_coil_20 : decode cX6_coil 20 = .ok (.aload_n 0, 1) := by decide +kernel
theorem dX6_coil_21 : decode cX6_coil 21 = .ok (.getfield 133, 3) := by decide +kernel
theorem dX6_coil_24 : decode cX6_coil 24 = .ok (.irem, 1) := by decide +kernel
theorem dX6_coil_25 : decode cX6_coil 25 = .ok (.imul, 1) := by decide +kernel
theorem dX6_coil_26 : decode cX6_coil 26 = .ok (.iaload, 1) := by decide +kernel
theorem dX6_coil_27 : decode cX6_coil 27 = .ok (.istore_n 3, 1) := by decide +kernel
theorem dX6_coil_28 : decode cX6_coil 28 = .ok (.aload_n 0, 1) := by decide +kernel
theorem dX6_coil_29 : decode cX6_coil 29 = .ok (.getfield 133, 3) := by decide +kernel
theorem dX6_coil_32 : decode cX6_coil 32 = .ok (.ifCond .ne 7, 3) := by decide +kernel
theorem dX6_coil_35 : decode cX6_coil 35 = .ok (.iconst 0, 1) := by decide +kernel
theorem dX6_coil_36 : decode cX6_coil 36 = .ok (.goto 21, 3) := by decide +kernel
theorem dX6_coil_39 : decode cX6_coil 39 = .ok (.aload_n 0, 1) := by decide +kernel
theorem dX6_coil_40 : decode cX6_coil 40 = .ok (.getfield 16, 3) := by decide +kernel
theorem dX6_coil_43 : decode cX6_coil 43 = .ok (.iconst 3, 1) := by decide +kernel
theorem dX6_coil_44 : decode cX6_coil 44 = .ok (.aload_n 1, 1) := by decide +kernel
theorem dX6_coil_45 : decode cX6_coil 45 = .ok (.bipush 6, 2) := by decide +kernel
theorem dX6_coil_47 : decode cX6_coil 47 = .ok (.iaload, 1) := by decide +kernel
theorem dX6_coil_48 : decode cX6_coil 48 = .ok (.aload_n 0, 1) := by decide +kernel
theorem dX6_coil_49 : decode cX6_coil 49 = .ok (.getfield 133, 3) := by decide +kernel
theorem dX6_coil_52 : decode cX6_coil 52 = .ok (.irem, 1) := by decide +kernel
theorem dX6_coil_53 : decode cX6_coil 53 = .ok (.imul, 1) := by decide +kernel
theorem dX6_coil_54 : decode cX6_coil 54 = .ok (.iconst 1, 1) := by decide +kernel
theorem dX6_coil_55 : decode cX6_coil 55 = .ok (.iadd, 1) := by decide +kernel
theorem dX6_coil_56 : decode cX6_coil 56 = .ok (.iaload, 1) := by decide +kernel
theorem dX6_coil_57 : decode cX6_coil 57 = .ok (.istore 4, 2) := by decide +kernel
theorem dX6_coil_59 : decode cX6_coil 59 = .ok (.aload_n 0, 1) := by decide +kernel
theorem dX6_coil_60 : decode cX6_coil 60 = .ok (.getfield 133, 3) := by decide +kernel
theorem dX6_coil_63 : decode cX6_coil 63 = .ok (.ifCond .ne 7, 3) := by decide +kernel
theorem dX6_coil_66 : decode cX6_coil 66 = .ok (.iconst 0, 1) := by decide +kernel
theorem dX6_coil_67 : decode cX6_coil 67 = .ok (.goto 21, 3) := by decide +kernel
theorem dX6_coil_70 : decode cX6_coil 70 = .ok (.aload_n 0, 1) := by decide +kernel
theorem dX6_coil_71 : decode cX6_coil 71 = .ok (.getfield 16, 3) := by decide +kernel
theorem dX6_coil_74 : decode cX6_coil 74 = .ok (.iconst 3, 1) := by decide +kernel
theorem dX6_coil_75 : decode cX6_coil 75 = .ok (.aload_n 1, 1) := by decide +kernel
theorem dX6_coil_76 : decode cX6_coil 76 = .ok (.bipush 6, 2) := by decide +kernel
theorem dX6_coil_78 : decode cX6_coil 78 = .ok (.iaload, 1) := by decide +kernel
theorem dX6_coil_79 : decode cX6_coil 79 = .ok (.aload_n 0, 1) := by decide +kernel
theorem dX6_coil_80 : decode cX6_coil 80 = .ok (.getfield 133, 3) := by decide +kernel
theorem dX6_coil_83 : decode cX6_coil 83 = .ok (.irem, 1) := by decide +kernel
theorem dX6_coil_84 : decode cX6_coil 84 = .ok (.imul, 1) := by decide +kernel
theorem dX6_coil_85 : decode cX6_coil 85 = .ok (.iconst 2, 1) := by decide +kernel
theorem dX6_coil_86 : decode cX6_coil 86 = .ok (.iadd, 1) := by decide +kernel
theorem dX6_coil_87 : decode cX6_coil 87 = .ok (.iaload, 1) := by decide +kernel
theorem dX6_coil_88 : decode cX6_coil 88 = .ok (.istore 5, 2) := by decide +kernel
theorem dX6_coil_90 : decode cX6_coil 90 = .ok (.aload_n 0, 1) := by decide +kernel
theorem dX6_coil_91 : decode cX6_coil 91 = .ok (.aload_n 2, 1) := by decide +kernel
theorem dX6_coil_92 : decode cX6_coil 92 = .ok (.invokevirtual 184, 3) := by decide +kernel
theorem dX6_coil_95 : decode cX6_coil 95 = .ok (.aload_n 0, 1) := by decide +kernel
theorem dX6_coil_96 : decode cX6_coil 96 = .ok (.getfield 75, 3) := by decide +kernel
theorem dX6_coil_99 : decode cX6_coil 99 = .ok (.iconst 0, 1) := by decide +kernel
theorem dX6_coil_100 : decode cX6_coil 100 = .ok (.faload, 1) := by decide +kernel
theorem dX6_coil_101 : decode cX6_coil 101 = .ok (.fstore 6, 2) := by decide +kernel
theorem dX6_coil_103 : decode cX6_coil 103 = .ok (.aload_n 0, 1) := by decide +kernel
theorem dX6_coil_104 : decode cX6_coil 104 = .ok (.getfield 75, 3) := by decide +kernel
theorem dX6_coil_107 : decode cX6_coil 107 = .ok (.iconst 1, 1) := by decide +kernel
theorem dX6_coil_108 : decode cX6_coil 108 = .ok (.faload, 1) := by decide +kernel
theorem dX6_coil_109 : decode cX6_coil 109 = .ok (.fstore 7, 2) := by decide +kernel
theorem dX6_coil_111 : decode cX6_coil 111 = .ok (.aload_n 0, 1) := by decide +kernel
theorem dX6_coil_112 : decode cX6_coil 112 = .ok (.getfield 75, 3) := by decide +kernel
theorem dX6_coil_115 : decode cX6_coil 115 = .ok (.iconst 2, 1) := by decide +kernel
theorem dX6_coil_116 : decode cX6_coil 116 = .ok (.faload, 1) := by decide +kernel
theorem dX6_coil_117 : decode cX6_coil 117 = .ok (.fstore 8, 2) := by decide +kernel
theorem dX6_coil_119 : decode cX6_coil 119 = .ok (.aload_n 1, 1) := by decide +kernel
theorem dX6_coil_120 : decode cX6_coil 120 = .ok (.bipush 9, 2) := by decide +kernel
theorem dX6_coil_122 : decode cX6_coil 122 = .ok (.iaload, 1) := by decide +kernel
theorem dX6_coil_123 : decode cX6_coil 123 = .ok (.i2f, 1) := by decide +kernel
theorem dX6_coil_124 : decode cX6_coil 124 = .ok (.iload 4, 2) := by decide +kernel
theorem dX6_coil_126 : decode cX6_coil 126 = .ok (.i2f, 1) := by decide +kernel
theorem dX6_coil_127 : decode cX6_coil 127 = .ok (.fload 8, 2) := by decide +kernel
theorem dX6_coil_129 : decode cX6_coil 129 = .ok (.fmul, 1) := by decide +kernel
theorem dX6_coil_130 : decode cX6_coil 130 = .ok (.iload 5, 2) := by decide +kernel
theorem dX6_coil_132 : decode cX6_coil 132 = .ok (.i2f, 1) := by decide +kernel
theorem dX6_coil_133 : decode cX6_coil 133 = .ok (.fload 7, 2) := by decide +kernel
theorem dX6_coil_135 : decode cX6_coil 135 = .ok (.fmul, 1) := by decide +kernel
theorem dX6_coil_136 : decode cX6_coil 136 = .ok (.fsub, 1) := by decide +kernel
theorem dX6_coil_137 : decode cX6_coil 137 = .ok (.fmul, 1) := by decide +kernel
theorem dX6_coil_138 : decode cX6_coil 138 = .ok (.ldc 188, 2) := by decide +kernel
theorem dX6_coil_140 : decode cX6_coil 140 = .ok (.fdiv, 1) := by decide +kernel
theorem dX6_coil_141 : decode cX6_coil 141 = .ok (.aload_n 1, 1) := by decide +kernel
theorem dX6_coil_142 : decode cX6_coil 142 = .ok (.bipush 10, 2) := by decide +kernel
theorem dX6_coil_144 : decode cX6_coil 144 = .ok (.iaload, 1) := by decide +kernel
theorem dX6_coil_145 : decode cX6_coil 145 = .ok (.invokestatic 189, 3) := by decide +kernel
theorem dX6_coil_148 : decode cX6_coil 148 = .ok (.fstore 9, 2) := by decide +kernel
theorem dX6_coil_150 : decode cX6_coil 150 = .ok (.aload_n 1, 1) := by decide +kernel
theorem dX6_coil_151 : decode cX6_coil 151 = .ok (.bipush 9, 2) := by decide +kernel
theorem dX6_coil_153 : decode cX6_coil 153 = .ok (.iaload, 1) := by decide +kernel
theorem dX6_coil_154 : decode cX6_coil 154 = .ok (.i2f, 1) := by decide +kernel
theorem dX6_coil_155 : decode cX6_coil 155 = .ok (.iload 5, 2) := by decide +kernel
theorem dX6_coil_157 : decode cX6_coil 157 = .ok (.i2f, 1) := by decide +kernel
theorem dX6_coil_158 : decode cX6_coil 158 = .ok (.fload 6, 2) := by decide +kernel
theorem dX6_coil_160 : decode cX6_coil 160 = .ok (.fmul, 1) := by decide +kernel
theorem dX6_coil_161 : decode cX6_coil 161 = .ok (.iload_n 3, 1) := by decide +kernel
theorem dX6_coil_162 : decode cX6_coil 162 = .ok (.i2f, 1) := by decide +kernel
theorem dX6_coil_163 : decode cX6_coil 163 = .ok (.fload 8, 2) := by decide +kernel
theorem dX6_coil_165 : decode cX6_coil 165 = .ok (.fmul, 1) := by decide +kernel
theorem dX6_coil_166 : decode cX6_coil 166 = .ok (.fsub, 1) := by decide +kernel
theorem dX6_coil_167 : decode cX6_coil 167 = .ok (.fmul, 1) := by decide +kernel
theorem dX6_coil_168 : decode cX6_coil 168 = .ok (.ldc 188, 2) := by decide +kernel
theorem dX6_coil_170 : decode cX6_coil 170 = .ok (.fdiv, 1) := by decide +kernel
theorem dX6_coil_171 : decode cX6_coil 171 = .ok (.aload_n 1, 1) := by decide +kernel
theorem dX6_coil_172 : decode cX6_coil 172 = .ok (.bipush 10, 2) := by decide +kernel
theorem dX6_coil_174 : decode cX6_coil 174 = .ok (.iaload, 1) := by decide +kernel
theorem dX6_coil_175 : decode cX6_coil 175 = .ok (.invokestatic 189, 3) := by decide +kernel
theorem dX6_coil_178 : decode cX6_coil 178 = .ok (.fstore 10, 2) := by decide +kernel
theorem dX6_coil_180 : decode cX6_coil 180 = .ok (.aload_n 1, 1) := by decide +kernel
theorem dX6_coil_181 : decode cX6_coil 181 = .ok (.bipush 9, 2) := by decide +kernel
theorem dX6_coil_183 : decode cX6_coil 183 = .ok (.iaload, 1) := by decide +kernel
theorem dX6_coil_184 : decode cX6_coil 184 = .ok (.i2f, 1) := by decide +kernel
theorem dX6_coil_185 : decode cX6_coil 185 = .ok (.iload_n 3, 1) := by decide +kernel
theorem dX6_coil_186 : decode cX6_coil 186 = .ok (.i2f, 1) := by decide +kernel
theorem dX6_coil_187 : decode cX6_coil 187 = .ok (.fload 7, 2) := by decide +kernel
theorem dX6_coil_189 : decode cX6_coil 189 = .ok (.fmul, 1) := by decide +kernel
theorem dX6_coil_190 : decode cX6_coil 190 = .ok (.iload 4, 2) := by decide +kernel
theorem dX6_coil_192 : decode cX6_coil 192 = .ok (.i2f, 1) := by decide +kernel
theorem dX6_coil_193 : decode cX6_coil 193 = .ok (.fload 6, 2) := by decide +kernel
theorem dX6_coil_195 : decode cX6_coil 195 = .ok (.fmul, 1) := by decide +kernel
theorem dX6_coil_196 : decode cX6_coil 196 = .ok (.fsub, 1) := by decide +kernel
theorem dX6_coil_197 : decode cX6_coil 197 = .ok (.fmul, 1) := by decide +kernel
theorem dX6_coil_198 : decode cX6_coil 198 = .ok (.ldc 188, 2) := by decide +kernel
theorem dX6_coil_200 : decode cX6_coil 200 = .ok (.fdiv, 1) := by decide +kernel
theorem dX6_coil_201 : decode cX6_coil 201 = .ok (.aload_n 1, 1) := by decide +kernel
theorem dX6_coil_202 : decode cX6_coil 202 = .ok (.bipush 10, 2) := by decide +kernel
theorem dX6_coil_204 : decode cX6_coil 204 = .ok (.iaload, 1) := by decide +kernel
theorem dX6_coil_205 : decode cX6_coil 205 = .ok (.invokestatic 189, 3) := by decide +kernel
theorem dX6_coil_208 : decode cX6_coil 208 = .ok (.fstore 11, 2) := by decide +kernel
theorem dX6_coil_210 : decode cX6_coil 210 = .ok (.fload 11, 2) := by decide +kernel
theorem dX6_coil_212 : decode cX6_coil 212 = .ok (.iload 4, 2) := by decide +kernel
theorem dX6_coil_214 : decode cX6_coil 214 = .ok (.i2f, 1) := by decide +kernel
theorem dX6_coil_215 : decode cX6_coil 215 = .ok (.fmul, 1) := by decide +kernel
theorem dX6_coil_216 : decode cX6_coil 216 = .ok (.fload 10, 2) := by decide +kernel
theorem dX6_coil_218 : decode cX6_coil 218 = .ok (.iload 5, 2) := by decide +kernel
theorem dX6_coil_220 : decode cX6_coil 220 = .ok (.i2f, 1) := by decide +kernel
theorem dX6_coil_221 : decode cX6_coil 221 = .ok (.fmul, 1) := by decide +kernel
theorem dX6_coil_222 : decode cX6_coil 222 = .ok (.fsub, 1) := by decide +kernel
theorem dX6_coil_223 : decode cX6_coil 223 = .ok (.ldc 193, 2) := by decide +kernel
theorem dX6_coil_225 : decode cX6_coil 225 = .ok (.fdiv, 1) := by decide +kernel
theorem dX6_coil_226 : decode cX6_coil 226 = .ok (.fstore 12, 2) := by decide +kernel
theorem dX6_coil_228 : decode cX6_coil 228 = .ok (.fload 9, 2) := by decide +kernel
theorem dX6_coil_230 : decode cX6_coil 230 = .ok (.iload 5, 2) := by decide +kernel
theorem dX6_coil_232 : decode cX6_coil 232 = .ok (.i2f, 1) := by decide +kernel
theorem dX6_coil_233 : decode cX6_coil 233 = .ok (.fmul, 1) := by decide +kernel
theorem dX6_coil_234 : decode cX6_coil 234 = .ok (.fload 11, 2) := by decide +kernel
theorem dX6_coil_236 : decode cX6_coil 236 = .ok (.iload_n 3, 1) := by decide +kernel
theorem dX6_coil_237 : decode cX6_coil 237 = .ok (.i2f, 1) := by decide +kernel
theorem dX6_coil_238 : decode cX6_coil 238 = .ok (.fmul, 1) := by decide +kernel
theorem dX6_coil_239 : decode cX6_coil 239 = .ok (.fsub, 1) := by decide +kernel
theorem dX6_coil_240 : decode cX6_coil 240 = .ok (.ldc 193, 2) := by decide +kernel
theorem dX6_coil_242 : decode cX6_coil 242 = .ok (.fdiv, 1) := by decide +kernel
theorem dX6_coil_243 : decode cX6_coil 243 = .ok (.fstore 13, 2) := by decide +kernel
theorem dX6_coil_245 : decode cX6_coil 245 = .ok (.fload 10, 2) := by decide +kernel
theorem dX6_coil_247 : decode cX6_coil 247 = .ok (.iload_n 3, 1) := by decide +kernel
theorem dX6_coil_248 : decode cX6_coil 248 = .ok (.i2f, 1) := by decide +kernel
theorem dX6_coil_249 : decode cX6_coil 249 = .ok (.fmul, 1) := by decide +kernel
theorem dX6_coil_250 : decode cX6_coil 250 = .ok (.fload 9, 2) := by decide +kernel
theorem dX6_coil_252 : decode cX6_coil 252 = .ok (.iload 4, 2) := by decide +kernel
theorem dX6_coil_254 : decode cX6_coil 254 = .ok (.i2f, 1) := by decide +kernel
theorem dX6_coil_255 : decode cX6_coil 255 = .ok (.fmul, 1) := by decide +kernel
theorem dX6_coil_256 : decode cX6_coil 256 = .ok (.fsub, 1) := by decide +kernel
theorem dX6_coil_257 : decode cX6_coil 257 = .ok (.ldc 193, 2) := by decide +kernel
theorem dX6_coil_259 : decode cX6_coil 259 = .ok (.fdiv, 1) := by decide +kernel
theorem dX6_coil_260 : decode cX6_coil 260 = .ok (.fstore 14, 2) := by decide +kernel
theorem dX6_coil_262 : decode cX6_coil 262 = .ok (.aload_n 1, 1) := by decide +kernel
theorem dX6_coil_263 : decode cX6_coil 263 = .ok (.invokestatic 146, 3) := by decide +kernel
theorem dX6_coil_266 : decode cX6_coil 266 = .ok (.istore 15, 2) := by decide +kernel
theorem dX6_coil_268 : decode cX6_coil 268 = .ok (.iconst 0, 1) := by decide +kernel
theorem dX6_coil_269 : decode cX6_coil 269 = .ok (.istore 16, 2) := by decide +kernel
theorem dX6_coil_271 : decode cX6_coil 271 = .ok (.iload 16, 2) := by decide +kernel
theorem dX6_coil_273 : decode cX6_coil 273 = .ok (.iconst 4, 1) := by decide +kernel
theorem dX6_coil_274 : decode cX6_coil 274 = .ok (.if_icmp .ge 80, 3) := by decide +kernel
theorem dX6_coil_277 : decode cX6_coil 277 = .ok (.aload_n 1, 1) := by decide +kernel
theorem dX6_coil_278 : decode cX6_coil 278 = .ok (.iconst 0, 1) := by decide +kernel
theorem dX6_coil_279 : decode cX6_coil 279 = .ok (.iaload, 1) := by decide +kernel
theorem dX6_coil_280 : decode cX6_coil 280 = .ok (.iload 16, 2) := by decide +kernel
theorem dX6_coil_282 : decode cX6_coil 282 = .ok (.invokestatic 139, 3) := by decide +kernel
theorem dX6_coil_285 : decode cX6_coil 285 = .ok (.ifCond .ne 63, 3) := by decide +kernel
theorem dX6_coil_288 : decode cX6_coil 288 = .ok (.aload_n 2, 1) := by decide +kernel
theorem dX6_coil_289 : decode cX6_coil 289 = .ok (.iload 16, 2) := by decide +kernel
theorem dX6_coil_291 : decode cX6_coil 291 = .ok (.aload_n 2, 1) := by decide +kernel
theorem dX6_coil_292 : decode cX6_coil 292 = .ok (.iload 16, 2) := by decide +kernel
theorem dX6_coil_294 : decode cX6_coil 294 = .ok (.faload, 1) := by decide +kernel
theorem dX6_coil_295 : decode cX6_coil 295 = .ok (.aload_n 0, 1) := by decide +kernel
theorem dX6_coil_296 : decode cX6_coil 296 = .ok (.iload 16, 2) := by decide +kernel
theorem dX6_coil_298 : decode cX6_coil 298 = .ok (.iload 15, 2) := by decide +kernel
theorem dX6_coil_300 : decode cX6_coil 300 = .ok (.iconst 0, 1) := by decide +kernel
theorem dX6_coil_301 : decode cX6_coil 301 = .ok (.invokevirtual 142, 3) := by decide +kernel
theorem dX6_coil_304 : decode cX6_coil 304 = .ok (.i2f, 1) := by decide +kernel
theorem dX6_coil_305 : decode cX6_coil 305 = .ok (.fload 12, 2) := by decide +kernel
theorem dX6_coil_307 : decode cX6_coil 307 = .ok (.fmul, 1) := by decide +kernel
theorem dX6_coil_308 : decode cX6_coil 308 = .ok (.aload_n 0, 1) := by decide +kernel
theorem dX6_coil_309 : decode cX6_coil 309 = .ok (.iload 16, 2) := by decide +kernel
theorem dX6_coil_311 : decode cX6_coil 311 = .ok (.iload 15, 2) := by decide +kernel
theorem dX6_coil_313 : decode cX6_coil 313 = .ok (.iconst 1, 1) := by decide +kernel
theorem dX6_coil_314 : decode cX6_coil 314 = .ok (.invokevirtual 142, 3) := by decide +kernel
theorem dX6_coil_317 : decode cX6_coil 317 = .ok (.i2f, 1) := by decide +kernel
theorem dX6_coil_318 : decode cX6_coil 318 = .ok (.fload 13, 2) := by decide +kernel
theorem dX6_coil_320 : decode cX6_coil 320 = .ok (.fmul, 1) := by decide +kernel
theorem dX6_coil_321 : decode cX6_coil 321 = .ok (.fadd, 1) := by decide +kernel
theorem dX6_coil_322 : decode cX6_coil 322 = .ok (.aload_n 0, 1) := by decide +kernel
theorem dX6_coil_323 : decode cX6_coil 323 = .ok (.iload 16, 2) := by decide +kernel
theorem dX6_coil_325 : decode cX6_coil 325 = .ok (.iload 15, 2) := by decide +kernel
theorem dX6_coil_327 : decode cX6_coil 327 = .ok (.iconst 2, 1) := by decide +kernel
theorem dX6_coil_328 : decode cX6_coil 328 = .ok (.invokevirtual 142, 3) := by decide +kernel
theorem dX6_coil_331 : decode cX6_coil 331 = .ok (.i2f, 1) := by decide +kernel
theorem dX6_coil_332 : decode cX6_coil 332 = .ok (.fload 14, 2) := by decide +kernel
theorem dX6_coil_334 : decode cX6_coil 334 = .ok (.fmul, 1) := by decide +kernel
theorem dX6_coil_335 : decode cX6_coil 335 = .ok (.fadd, 1) := by decide +kernel
theorem dX6_coil_336 : decode cX6_coil 336 = .ok (.ldc 154, 2) := by decide +kernel
theorem dX6_coil_338 : decode cX6_coil 338 = .ok (.fdiv, 1) := by decide +kernel
theorem dX6_coil_339 : decode cX6_coil 339 = .ok (.fadd, 1) := by decide +kernel
theorem dX6_coil_340 : decode cX6_coil 340 = .ok (.aload_n 1, 1) := by decide +kernel
theorem dX6_coil_341 : decode cX6_coil 341 = .ok (.bipush 7, 2) := by decide +kernel
theorem dX6_coil_343 : decode cX6_coil 343 = .ok (.iaload, 1) := by decide +kernel
theorem dX6_coil_344 : decode cX6_coil 344 = .ok (.invokestatic 189, 3) := by decide +kernel
theorem dX6_coil_347 : decode cX6_coil 347 = .ok (.fastore, 1) := by decide +kernel
theorem dX6_coil_348 : decode cX6_coil 348 = .ok (.iinc 16 1, 3) := by decide +kernel
theorem dX6_coil_351 : decode cX6_coil 351 = .ok (.goto (-80), 3) := by decide +kernel
theorem dX6_coil_354 : decode cX6_coil 354 = .ok (.return_, 1) := by decide +kernel
set_option maxRecDepth 20000 in
theorem ggX6_coil_X6_layMomentum : GoodIn wsX6_coil wsX6_layMomentum := goodIn_r _ [11, 3, 12, 26, 27, 28, 29, 30, 31, 32, 33, 34, 35, 36, 37, 38, 39, 40, 41, 42, 43, 44, 45, 46, 47, 48, 49, 50, 51, 52, 53, 54, 55, 56, 57, 58, 59, 60, 61] rfl (by decide +kernel)
set_option maxRecDepth 20000 in
theorem gX6_coil_X6_layMomentum : GoodIn wsX6_coil (wsV RX6 184 RX6 yX6_layMomentum wsX6_layMomentum) := goodIn_app (goodIn_of _ (by decide +kernel)) ggX6_coil_X6_layMomentum
set_option maxRecDepth 20000 in
theorem ggX6_coil_X6_held : GoodIn wsX6_coil wsX6_held := goodIn_r _ [15] rfl (by decide +kernel)
set_option maxRecDepth 20000 in
theorem gX6_coil_X6_held : GoodIn wsX6_coil (va_wsS RX6 189 yX6_held wsX6_held) := goodIn_app (goodIn_of _ (by decide +kernel)) ggX6_coil_X6_held
set_option maxRecDepth 20000 in
theorem ggX6_coil_X6_theDead : GoodIn wsX6_coil wsX6_theDead := goodIn_r _ [18, 19, 20, 10, 21] rfl (by decide +kernel)
set_option maxRecDepth 20000 in
theorem gX6_coil_X6_theDead : GoodIn wsX6_coil (va_wsS RX6 146 yX6_theDead wsX6_theDead) := goodIn_app (goodIn_of _ (by decide +kernel)) ggX6_coil_X6_theDead
set_option maxRecDepth 20000 in
theorem ggX6_coil_X6_has : GoodIn wsX6_coil wsX6_has := goodIn_r _ [21] rfl (by decide +kernel)
set_option maxRecDepth 20000 in
theorem gX6_coil_X6_has : GoodIn wsX6_coil (va_wsS RX6 139 yX6_has wsX6_has) := goodIn_app (goodIn_of _ (by decide +kernel)) ggX6_coil_X6_has
set_option maxRecDepth 20000 in
theorem ggX6_coil_X6_axisOf : GoodIn wsX6_coil wsX6_axisOf := goodIn_r _ [25, 12, 26, 27, 28, 29, 30, 31, 32, 33, 34, 35, 36, 37, 38, 39, 40, 41, 42, 43, 44, 45, 46, 47, 48, 49, 50, 51, 52, 53, 54, 55, 56, 57, 58, 59, 60, 61] rfl (by decide +kernel)
set_option maxRecDepth 20000 in
theorem gX6_coil_X6_axisOf : GoodIn wsX6_coil (wsV RX6 142 RX6 yX6_axisOf wsX6_axisOf) := goodIn_app (goodIn_of _ (by decide +kernel)) ggX6_coil_X6_axisOf
theorem inX6_coil_X6 : ∀ w ∈ u_ws RX6 TX6 36, w ∈ wsX6_coil := fun w h => List.mem_cons_of_mem _ (List.mem_append_right _ h)
set_option maxRecDepth 100000 in
set_option maxHeartbeats 4000000 in
theorem m_X6_coil {l : Launch} {D : va_G} {E : Nat → ClassId} {T : Nat → Nat} (o : Nat) (xa : Nat) (fa : Nat) (ma : Nat) (pp : Nat) (ff : Nat) (nf : Nat) (B : Nat) (u0 : Value) (u1 : Value) (u2 : Value) (u4 : Value) (u7 : Value) (u8 : Value) (u9 : Value) (u10 : Value) (u11 : Value) (u12 : Value) (u13 : Value) (u14 : Value) (u15 : Value) (u16 : Value) (u17 : Value) (u18 : Value) (u19 : Value) (u20 : Value) (u21 : Value) (u22 : Value) (u23 : Value) (u24 : Value) (u25 : Value) (u26 : Value) (u27 : Value) (u28 : Value) (u29 : Value) (u30 : Value) (u31 : Value) (u32 : Value) (u34 : Value) (u35 : Value) (fl : Nat → Int32) (S : TS) (gm : Nat → UInt32) (hok : OkS B S) (hp : pcn (sD S) ≤ 1) (hn : nf ≤ 6) (hB : B < 2 ^ 31) : g_M l D E T yX6_coil wsX6_coil 2 43 [.ref o, .ref pp, .ref ff] [(o, .inr (6, [u0, u1, u2, .ref xa, u4, .int (nI nf), .ref fa, u7, u8, u9, u10, u11, u12, u13, u14, u15, u16, u17, u18, u19, u20, u21, u22, u23, u24, u25, u26, u27, u28, u29, u30, u31, u32, .ref ma, u34, u35])), (xa, .inl (E 0, 12, .inl (g_tv 0))), (fa, .inl (E 0, 18, .inl fl)), (ma, .inl (E 1, 3, .inr (.inr (.inl gm)))), (pp, .inl (E 0, 29, .inl (pgF S))), (ff, .inl (E 1, 5, .inr (.inr (.inl (fl5 S)))))] [(o, .inr (6, [u0, u1, u2, .ref xa, u4, .int (nI nf), .ref fa, u7, u8, u9, u10, u11, u12, u13, u14, u15, u16, u17, u18, u19, u20, u21, u22, u23, u24, u25, u26, u27, u28, u29, u30, u31, u32, .ref ma, u34, u35])), (xa, .inl (E 0, 12, .inl (g_tv 0))), (fa, .inl (E 0, 18, .inl fl)), (ma, .inl (E 1, 3, .inr (.inr (.inl (moF (sF S)))))), (pp, .inl (E 0, 29, .inl (pgF (t2U nf fl S)))), (ff, .inl (E 1, 5, .inr (.inr (.inl (fl5 (t2U nf fl S))))))] none := by
  have hk31 : sK S < 2 ^ 31 := Nat.lt_of_le_of_lt hok.k hB
  refine g_M.of (cc := cX6_coil) (nL := 17) (ret := none) (own := RX6) (lv := [(0, .ref o), (1, .ref pp), (2, .ref ff)]) (by decide) rfl rfl (Nat.le_of_ble_eq_true rfl) rfl ?_
  intro p e R s m args below meth c A Q H locs ls hR hQ hc hr hw hl
  have hx := hc.1
  have hb := hc.2.1
  have hts := hc.2.2.2.1
  have hown := hc.2.2.2.2.1
  refine lv_aload_n hx hb dX6_coil_0 rfl (lv_at hl 0 rfl) ?_
  refine g_get (TT := TX6) hc hw inX6_coil_X6 0 5 1 rfl rfl (by decide) rfl rfl dX6_coil_1 ?_
  have J27 : ∀ (H : Heap) (locs : List Loc) (ls : Array Slot), g_W D A s [(o, .inr (6, [u0, u1, u2, .ref xa, u4, .int (nI nf), .ref fa, u7, u8, u9, u10, u11, u12, u13, u14, u15, u16, u17, u18, u19, u20, u21, u22, u23, u24, u25, u26, u27, u28, u29, u30, u31, u32, .ref ma, u34, u35])), (xa, .inl (E 0, 12, .inl (g_tv 0))), (fa, .inl (E 0, 18, .inl fl)), (ma, .inl (E 1, 3, .inr (.inr (.inl gm)))), (pp, .inl (E 0, 29, .inl (pgF S))), (ff, .inl (E 1, 5, .inr (.inr (.inl (fl5 S)))))] H locs → lv_has ls 17 [(0, .ref o), (1, .ref pp), (2, .ref ff)] → W p l e R s m args below meth c H locs 0 0 Q (F0 m 27 ls [.int (cmF fl nf (sK S) 0)]) := by
    intro   H locs ls hw hl
    refine lv_istore_n (lv' := [(3, .int (cmF fl nf (sK S) 0)), (0, .ref o), (1, .ref pp), (2, .ref ff)]) hx hb dX6_coil_27 rfl hl (by decide) rfl (fun ls hl => ?_)
    refine lv_aload_n hx hb dX6_coil_28 rfl (lv_at hl 1 rfl) ?_
    refine g_get (TT := TX6) hc hw inX6_coil_X6 0 5 1 rfl rfl (by decide) rfl rfl dX6_coil_29 ?_
    have J57 : ∀ (H : Heap) (locs : List Loc) (ls : Array Slot), g_W D A s [(o, .inr (6, [u0, u1, u2, .ref xa, u4, .int (nI nf), .ref fa, u7, u8, u9, u10, u11, u12, u13, u14, u15, u16, u17, u18, u19, u20, u21, u22, u23, u24, u25, u26, u27, u28, u29, u30, u31, u32, .ref ma, u34, u35])), (xa, .inl (E 0, 12, .inl (g_tv 0))), (fa, .inl (E 0, 18, .inl fl)), (ma, .inl (E 1, 3, .inr (.inr (.inl gm)))), (pp, .inl (E 0, 29, .inl (pgF S))), (ff, .inl (E 1, 5, .inr (.inr (.inl (fl5 S)))))] H locs → lv_has ls 17 [(0, .ref o), (1, .ref pp), (2, .ref ff), (3, .int (cmF fl nf (sK S) 0))] → W p l e R s m args below meth c H locs 0 0 Q (F0 m 57 ls [.int (cmF fl nf (sK S) 1)]) := by
      intro   H locs ls hw hl
      refine lv_istore (lv' := [(4, .int (cmF fl nf (sK S) 1)), (0, .ref o), (1, .ref pp), (2, .ref ff), (3, .int (cmF fl nf (sK S) 0))]) hx hb dX6_coil_57 hl (by decide) rfl (fun ls hl => ?_)
      refine lv_aload_n hx hb dX6_coil_59 rfl (lv_at hl 1 rfl) ?_
      refine g_get (TT := TX6) hc hw inX6_coil_X6 0 5 1 rfl rfl (by decide) rfl rfl dX6_coil_60 ?_
      have J88 : ∀ (H : Heap) (locs : List Loc) (ls : Array Slot), g_W D A s [(o, .inr (6, [u0, u1, u2, .ref xa, u4, .int (nI nf), .ref fa, u7, u8, u9, u10, u11, u12, u13, u14, u15, u16, u17, u18, u19, u20, u21, u22, u23, u24, u25, u26, u27, u28, u29, u30, u31, u32, .ref ma, u34, u35])), (xa, .inl (E 0, 12, .inl (g_tv 0))), (fa, .inl (E 0, 18, .inl fl)), (ma, .inl (E 1, 3, .inr (.inr (.inl gm)))), (pp, .inl (E 0, 29, .inl (pgF S))), (ff, .inl (E 1, 5, .inr (.inr (.inl (fl5 S)))))] H locs → lv_has ls 17 [(0, .ref o), (1, .ref pp), (2, .ref ff), (3, .int (cmF fl nf (sK S) 0)), (4, .int (cmF fl nf (sK S) 1))] → W p l e R s m args below meth c H locs 0 0 Q (F0 m 88 ls [.int (cmF fl nf (sK S) 2)]) := by
        intro   H locs ls hw hl
        refine lv_istore (lv' := [(5, .int (cmF fl nf (sK S) 2)), (0, .ref o), (1, .ref pp), (2, .ref ff), (3, .int (cmF fl nf (sK S) 0)), (4, .int (cmF fl nf (sK S) 1))]) hx hb dX6_coil_88 hl (by decide) rfl (fun ls hl => ?_)
        refine lv_aload_n hx hb dX6_coil_90 rfl (lv_at hl 1 rfl) ?_
        refine lv_aload_n hx hb dX6_coil_91 rfl (lv_at hl 3 rfl) ?_
        refine g_cV (As := [.ref ff]) (n := 1) (rest := []) (wc := [(o, .inr (6, [u0, u1, u2, .ref xa, u4, .int (nI nf), .ref fa, u7, u8, u9, u10, u11, u12, u13, u14, u15, u16, u17, u18, u19, u20, u21, u22, u23, u24, u25, u26, u27, u28, u29, u30, u31, u32, .ref ma, u34, u35])), (xa, .inl (E 0, 12, .inl (g_tv 0))), (ma, .inl (E 1, 3, .inr (.inr (.inl gm)))), (ff, .inl (E 1, 5, .inr (.inr (.inl (fl5 S)))))]) (w1 := [(o, .inr (6, [u0, u1, u2, .ref xa, u4, .int (nI nf), .ref fa, u7, u8, u9, u10, u11, u12, u13, u14, u15, u16, u17, u18, u19, u20, u21, u22, u23, u24, u25, u26, u27, u28, u29, u30, u31, u32, .ref ma, u34, u35])), (xa, .inl (E 0, 12, .inl (g_tv 0))), (ma, .inl (E 1, 3, .inr (.inr (.inl (moF (sF S)))))), (ff, .inl (E 1, 5, .inr (.inr (.inl (fl5 S)))))]) (bytes := cX6_layMomentum) (maxL := 3) (ret := none) hc hw hl.1 (m_X6_layMomentum (l := l) (D := D) (E := E) (T := T) o xa ma ff B u0 u1 u2 u4 (.int (nI nf)) (.ref fa) u7 u8 u9 u10 u11 u12 u13 u14 u15 u16 u17 u18 u19 u20 u21 u22 u23 u24 u25 u26 u27 u28 u29 u30 u31 u32 u34 u35 S gm hok) gX6_coil_X6_layMomentum rfl (by decide +kernel) (by rw [hR]; exact ⟨Nat.le_of_ble_eq_true rfl, Nat.le_of_ble_eq_true rfl⟩) [0, 1, 3, 5] 0 6 rfl rfl (by decide) rfl [o, xa, ma, ff] rfl rfl rfl rfl (Nat.le_of_ble_eq_true rfl) dX6_coil_92 ⟨Nat.zero_le _, Nat.zero_le _⟩ (fun H locs hw => ?_)
        have hw : g_W D A s [(o, .inr (6, [u0, u1, u2, .ref xa, u4, .int (nI nf), .ref fa, u7, u8, u9, u10, u11, u12, u13, u14, u15, u16, u17, u18, u19, u20, u21, u22, u23, u24, u25, u26, u27, u28, u29, u30, u31, u32, .ref ma, u34, u35])), (xa, .inl (E 0, 12, .inl (g_tv 0))), (fa, .inl (E 0, 18, .inl fl)), (ma, .inl (E 1, 3, .inr (.inr (.inl (moF (sF S)))))), (pp, .inl (E 0, 29, .inl (pgF S))), (ff, .inl (E 1, 5, .inr (.inr (.inl (fl5 S)))))] H locs := hw
        refine lv_aload_n hx hb dX6_coil_95 rfl (lv_at hl 1 rfl) ?_
        refine g_get (TT := TX6) hc hw inX6_coil_X6 0 33 3 rfl rfl (by decide) rfl rfl dX6_coil_96 ?_
        refine lv_iconst (v := 0) hx hb dX6_coil_99 (by decide) ?_
        refine g_fld hc hw 3 0 rfl rfl (by omega) (by decide) dX6_coil_100 ?_
        refine lv_fstore (lv' := [(6, .float ((moF (sF S)) 0)), (5, .int (cmF fl nf (sK S) 2)), (0, .ref o), (1, .ref pp), (2, .ref ff), (3, .int (cmF fl nf (sK S) 0)), (4, .int (cmF fl nf (sK S) 1))]) hx hb dX6_coil_101 hl (by decide) rfl (fun ls hl => ?_)
        refine lv_aload_n hx hb dX6_coil_103 rfl (lv_at hl 2 rfl) ?_
        refine g_get (TT := TX6) hc hw inX6_coil_X6 0 33 3 rfl rfl (by decide) rfl rfl dX6_coil_104 ?_
        refine lv_iconst (v := 1) hx hb dX6_coil_107 (by decide) ?_
        refine g_fld hc hw 3 1 rfl rfl (by omega) (by decide) dX6_coil_108 ?_
        refine lv_fstore (lv' := [(7, .float ((moF (sF S)) 1)), (6, .float ((moF (sF S)) 0)), (5, .int (cmF fl nf (sK S) 2)), (0, .ref o), (1, .ref pp), (2, .ref ff), (3, .int (cmF fl nf (sK S) 0)), (4, .int (cmF fl nf (sK S) 1))]) hx hb dX6_coil_109 hl (by decide) rfl (fun ls hl => ?_)
        refine lv_aload_n hx hb dX6_coil_111 rfl (lv_at hl 3 rfl) ?_
        refine g_get (TT := TX6) hc hw inX6_coil_X6 0 33 3 rfl rfl (by decide) rfl rfl dX6_coil_112 ?_
        refine lv_iconst (v := 2) hx hb dX6_coil_115 (by decide) ?_
        refine g_fld hc hw 3 2 rfl rfl (by omega) (by decide) dX6_coil_116 ?_
        refine lv_fstore (lv' := [(8, .float ((moF (sF S)) 2)), (7, .float ((moF (sF S)) 1)), (6, .float ((moF (sF S)) 0)), (5, .int (cmF fl nf (sK S) 2)), (0, .ref o), (1, .ref pp), (2, .ref ff), (3, .int (cmF fl nf (sK S) 0)), (4, .int (cmF fl nf (sK S) 1))]) hx hb dX6_coil_117 hl (by decide) rfl (fun ls hl => ?_)
        refine lv_aload_n hx hb dX6_coil_119 rfl (lv_at hl 5 rfl) ?_
        refine lv_bipush (v := 9) hx hb dX6_coil_120 (by decide) ?_
        refine g_ild hc hw 4 9 rfl rfl (by omega) (by decide) dX6_coil_122 ?_
        refine W.eq (congrArg (fun z => F0 m 123 ls (.int z :: [])) (show ((pgF S) 9 : Int32) = sT S 2 from rfl)) ?_
        refine lv_i2f hx hb dX6_coil_123 ?_
        refine lv_iload hx hb dX6_coil_124 (lv_at hl 8 rfl) ?_
        refine lv_i2f hx hb dX6_coil_126 ?_
        refine lv_fload hx hb dX6_coil_127 (lv_at hl 0 rfl) ?_
        refine lv_fmul hx hb dX6_coil_129 (g_nn (g_mgmul (Ka := 160) (Kb := 143) (K := 177) (g_mgi _) (g_mgmo hok.f (k := 2) (by omega)) (by decide) (by decide)) (by decide)) ?_
        refine lv_iload hx hb dX6_coil_130 (lv_at hl 3 rfl) ?_
        refine lv_i2f hx hb dX6_coil_132 ?_
        refine lv_fload hx hb dX6_coil_133 (lv_at hl 1 rfl) ?_
        refine lv_fmul hx hb dX6_coil_135 (g_nn (g_mgmul (Ka := 160) (Kb := 143) (K := 177) (g_mgi _) (g_mgmo hok.f (k := 1) (by omega)) (by decide) (by decide)) (by decide)) ?_
        refine lv_fsub hx hb dX6_coil_136 (g_nn (g_mgsub (Ka := 177) (Kb := 177) (K := 177) (g_mgmul (Ka := 160) (Kb := 143) (K := 177) (g_mgi _) (g_mgmo hok.f (k := 2) (by omega)) (by decide) (by decide)) (g_mgmul (Ka := 160) (Kb := 143) (K := 177) (g_mgi _) (g_mgmo hok.f (k := 1) (by omega)) (by decide) (by decide)) (by decide) (by decide) (by decide)) (by decide)) ?_
        refine lv_fmul hx hb dX6_coil_137 (g_nn (g_mgmul (Ka := 160) (Kb := 179) (K := 213) (g_mgi _) (g_mgsub (Ka := 177) (Kb := 177) (K := 177) (g_mgmul (Ka := 160) (Kb := 143) (K := 177) (g_mgi _) (g_mgmo hok.f (k := 2) (by omega)) (by decide) (by decide)) (g_mgmul (Ka := 160) (Kb := 143) (K := 177) (g_mgi _) (g_mgmo hok.f (k := 1) (by omega)) (by decide) (by decide)) (by decide) (by decide) (by decide)) (by decide) (by decide)) (by decide)) ?_
        refine lv_ldcf (v := 1098907648) hx hb hown (hts _ (List.mem_of_getElem? (i := 4) rfl)) dX6_coil_138 ?_
        refine lv_fdiv hx hb dX6_coil_140 (g_nn (g_mgdiv (K := 210) (L := 131) (g_mgmul (Ka := 160) (Kb := 179) (K := 213) (g_mgi _) (g_mgsub (Ka := 177) (Kb := 177) (K := 177) (g_mgmul (Ka := 160) (Kb := 143) (K := 177) (g_mgi _) (g_mgmo hok.f (k := 2) (by omega)) (by decide) (by decide)) (g_mgmul (Ka := 160) (Kb := 143) (K := 177) (g_mgi _) (g_mgmo hok.f (k := 1) (by omega)) (by decide) (by decide)) (by decide) (by decide) (by decide)) (by decide) (by decide)) (by decide) (by decide) (by decide) (by decide)) (by decide)) ?_
        refine lv_aload_n hx hb dX6_coil_141 rfl (lv_at hl 5 rfl) ?_
        refine lv_bipush (v := 10) hx hb dX6_coil_142 (by decide) ?_
        refine g_ild hc hw 4 10 rfl rfl (by omega) (by decide) dX6_coil_144 ?_
        refine W.eq (congrArg (fun z => F0 m 145 ls (.int z :: [.float (FP.fdiv (FP.fmul (FP.i2f (sT S 2)) (FP.fsub (FP.fmul (FP.i2f (cmF fl nf (sK S) 1)) ((moF (sF S)) 2)) (FP.fmul (FP.i2f (cmF fl nf (sK S) 2)) ((moF (sF S)) 1)))) 1098907648)])) (show ((pgF S) 10 : Int32) = sT S 3 from rfl)) ?_
        refine g_cS (As := [.float (FP.fdiv (FP.fmul (FP.i2f (sT S 2)) (FP.fsub (FP.fmul (FP.i2f (cmF fl nf (sK S) 1)) ((moF (sF S)) 2)) (FP.fmul (FP.i2f (cmF fl nf (sK S) 2)) ((moF (sF S)) 1)))) 1098907648), .int (sT S 3)]) (n := 2) (rest := []) (wc := []) (w1 := []) (bytes := cX6_held) (maxL := 2) (ret := (some .float)) hc hw hl.1 (m_X6_held (l := l) (D := D) (E := E) (T := T) (FP.fdiv (FP.fmul (FP.i2f (sT S 2)) (FP.fsub (FP.fmul (FP.i2f (cmF fl nf (sK S) 1)) ((moF (sF S)) 2)) (FP.fmul (FP.i2f (cmF fl nf (sK S) 2)) ((moF (sF S)) 1)))) 1098907648) (sT S 3)) gX6_coil_X6_held rfl (by decide +kernel) (by rw [hR]; exact ⟨Nat.le_of_ble_eq_true rfl, Nat.le_of_ble_eq_true rfl⟩) [] (by decide) rfl [] rfl rfl rfl rfl (Nat.le_of_ble_eq_true rfl) dX6_coil_145 ⟨Nat.zero_le _, Nat.zero_le _⟩ (fun H locs hw => ?_)
        have hw : g_W D A s [(o, .inr (6, [u0, u1, u2, .ref xa, u4, .int (nI nf), .ref fa, u7, u8, u9, u10, u11, u12, u13, u14, u15, u16, u17, u18, u19, u20, u21, u22, u23, u24, u25, u26, u27, u28, u29, u30, u31, u32, .ref ma, u34, u35])), (xa, .inl (E 0, 12, .inl (g_tv 0))), (fa, .inl (E 0, 18, .inl fl)), (ma, .inl (E 1, 3, .inr (.inr (.inl (moF (sF S)))))), (pp, .inl (E 0, 29, .inl (pgF S))), (ff, .inl (E 1, 5, .inr (.inr (.inl (fl5 S)))))] H locs := hw
        refine W.eq (congrArg (fun z => F0 m 148 ls (.float z :: [])) (show (limF (FP.fdiv (FP.fmul (FP.i2f (sT S 2)) (FP.fsub (FP.fmul (FP.i2f (cmF fl nf (sK S) 1)) ((moF (sF S)) 2)) (FP.fmul (FP.i2f (cmF fl nf (sK S) 2)) ((moF (sF S)) 1)))) 1098907648) (sT S 3) : UInt32) = cuU fl nf (sK S) (sF S) (sT S) from rfl)) ?_
        refine lv_fstore (lv' := [(9, .float (cuU fl nf (sK S) (sF S) (sT S))), (8, .float ((moF (sF S)) 2)), (7, .float ((moF (sF S)) 1)), (6, .float ((moF (sF S)) 0)), (5, .int (cmF fl nf (sK S) 2)), (0, .ref o), (1, .ref pp), (2, .ref ff), (3, .int (cmF fl nf (sK S) 0)), (4, .int (cmF fl nf (sK S) 1))]) hx hb dX6_coil_148 hl (by decide) rfl (fun ls hl => ?_)
        refine lv_aload_n hx hb dX6_coil_150 rfl (lv_at hl 6 rfl) ?_
        refine lv_bipush (v := 9) hx hb dX6_coil_151 (by decide) ?_
        refine g_ild hc hw 4 9 rfl rfl (by omega) (by decide) dX6_coil_153 ?_
        refine W.eq (congrArg (fun z => F0 m 154 ls (.int z :: [])) (show ((pgF S) 9 : Int32) = sT S 2 from rfl)) ?_
        refine lv_i2f hx hb dX6_coil_154 ?_
        refine lv_iload hx hb dX6_coil_155 (lv_at hl 4 rfl) ?_
        refine lv_i2f hx hb dX6_coil_157 ?_
        refine lv_fload hx hb dX6_coil_158 (lv_at hl 3 rfl) ?_
        refine lv_fmul hx hb dX6_coil_160 (g_nn (g_mgmul (Ka := 160) (Kb := 143) (K := 177) (g_mgi _) (g_mgmo hok.f (k := 0) (by omega)) (by decide) (by decide)) (by decide)) ?_
        refine lv_iload_n hx hb dX6_coil_161 rfl (lv_at hl 8 rfl) ?_
        refine lv_i2f hx hb dX6_coil_162 ?_
        refine lv_fload hx hb dX6_coil_163 (lv_at hl 1 rfl) ?_
        refine lv_fmul hx hb dX6_coil_165 (g_nn (g_mgmul (Ka := 160) (Kb := 143) (K := 177) (g_mgi _) (g_mgmo hok.f (k := 2) (by omega)) (by decide) (by decide)) (by decide)) ?_
        refine lv_fsub hx hb dX6_coil_166 (g_nn (g_mgsub (Ka := 177) (Kb := 177) (K := 177) (g_mgmul (Ka := 160) (Kb := 143) (K := 177) (g_mgi _) (g_mgmo hok.f (k := 0) (by omega)) (by decide) (by decide)) (g_mgmul (Ka := 160) (Kb := 143) (K := 177) (g_mgi _) (g_mgmo hok.f (k := 2) (by omega)) (by decide) (by decide)) (by decide) (by decide) (by decide)) (by decide)) ?_
        refine lv_fmul hx hb dX6_coil_167 (g_nn (g_mgmul (Ka := 160) (Kb := 179) (K := 213) (g_mgi _) (g_mgsub (Ka := 177) (Kb := 177) (K := 177) (g_mgmul (Ka := 160) (Kb := 143) (K := 177) (g_mgi _) (g_mgmo hok.f (k := 0) (by omega)) (by decide) (by decide)) (g_mgmul (Ka := 160) (Kb := 143) (K := 177) (g_mgi _) (g_mgmo hok.f (k := 2) (by omega)) (by decide) (by decide)) (by decide) (by decide) (by decide)) (by decide) (by decide)) (by decide)) ?_
        refine lv_ldcf (v := 1098907648) hx hb hown (hts _ (List.mem_of_getElem? (i := 4) rfl)) dX6_coil_168 ?_
        refine lv_fdiv hx hb dX6_coil_170 (g_nn (g_mgdiv (K := 210) (L := 131) (g_mgmul (Ka := 160) (Kb := 179) (K := 213) (g_mgi _) (g_mgsub (Ka := 177) (Kb := 177) (K := 177) (g_mgmul (Ka := 160) (Kb := 143) (K := 177) (g_mgi _) (g_mgmo hok.f (k := 0) (by omega)) (by decide) (by decide)) (g_mgmul (Ka := 160) (Kb := 143) (K := 177) (g_mgi _) (g_mgmo hok.f (k := 2) (by omega)) (by decide) (by decide)) (by decide) (by decide) (by decide)) (by decide) (by decide)) (by decide) (by decide) (by decide) (by decide)) (by decide)) ?_
        refine lv_aload_n hx hb dX6_coil_171 rfl (lv_at hl 6 rfl) ?_
        refine lv_bipush (v := 10) hx hb dX6_coil_172 (by decide) ?_
        refine g_ild hc hw 4 10 rfl rfl (by omega) (by decide) dX6_coil_174 ?_
        refine W.eq (congrArg (fun z => F0 m 175 ls (.int z :: [.float (FP.fdiv (FP.fmul (FP.i2f (sT S 2)) (FP.fsub (FP.fmul (FP.i2f (cmF fl nf (sK S) 2)) ((moF (sF S)) 0)) (FP.fmul (FP.i2f (cmF fl nf (sK S) 0)) ((moF (sF S)) 2)))) 1098907648)])) (show ((pgF S) 10 : Int32) = sT S 3 from rfl)) ?_
        refine g_cS (As := [.float (FP.fdiv (FP.fmul (FP.i2f (sT S 2)) (FP.fsub (FP.fmul (FP.i2f (cmF fl nf (sK S) 2)) ((moF (sF S)) 0)) (FP.fmul (FP.i2f (cmF fl nf (sK S) 0)) ((moF (sF S)) 2)))) 1098907648), .int (sT S 3)]) (n := 2) (rest := []) (wc := []) (w1 := []) (bytes := cX6_held) (maxL := 2) (ret := (some .float)) hc hw hl.1 (m_X6_held (l := l) (D := D) (E := E) (T := T) (FP.fdiv (FP.fmul (FP.i2f (sT S 2)) (FP.fsub (FP.fmul (FP.i2f (cmF fl nf (sK S) 2)) ((moF (sF S)) 0)) (FP.fmul (FP.i2f (cmF fl nf (sK S) 0)) ((moF (sF S)) 2)))) 1098907648) (sT S 3)) gX6_coil_X6_held rfl (by decide +kernel) (by rw [hR]; exact ⟨Nat.le_of_ble_eq_true rfl, Nat.le_of_ble_eq_true rfl⟩) [] (by decide) rfl [] rfl rfl rfl rfl (Nat.le_of_ble_eq_true rfl) dX6_coil_175 ⟨Nat.zero_le _, Nat.zero_le _⟩ (fun H locs hw => ?_)
        have hw : g_W D A s [(o, .inr (6, [u0, u1, u2, .ref xa, u4, .int (nI nf), .ref fa, u7, u8, u9, u10, u11, u12, u13, u14, u15, u16, u17, u18, u19, u20, u21, u22, u23, u24, u25, u26, u27, u28, u29, u30, u31, u32, .ref ma, u34, u35])), (xa, .inl (E 0, 12, .inl (g_tv 0))), (fa, .inl (E 0, 18, .inl fl)), (ma, .inl (E 1, 3, .inr (.inr (.inl (moF (sF S)))))), (pp, .inl (E 0, 29, .inl (pgF S))), (ff, .inl (E 1, 5, .inr (.inr (.inl (fl5 S)))))] H locs := hw
        refine W.eq (congrArg (fun z => F0 m 178 ls (.float z :: [])) (show (limF (FP.fdiv (FP.fmul (FP.i2f (sT S 2)) (FP.fsub (FP.fmul (FP.i2f (cmF fl nf (sK S) 2)) ((moF (sF S)) 0)) (FP.fmul (FP.i2f (cmF fl nf (sK S) 0)) ((moF (sF S)) 2)))) 1098907648) (sT S 3) : UInt32) = cuV fl nf (sK S) (sF S) (sT S) from rfl)) ?_
        refine lv_fstore (lv' := [(10, .float (cuV fl nf (sK S) (sF S) (sT S))), (9, .float (cuU fl nf (sK S) (sF S) (sT S))), (8, .float ((moF (sF S)) 2)), (7, .float ((moF (sF S)) 1)), (6, .float ((moF (sF S)) 0)), (5, .int (cmF fl nf (sK S) 2)), (0, .ref o), (1, .ref pp), (2, .ref ff), (3, .int (cmF fl nf (sK S) 0)), (4, .int (cmF fl nf (sK S) 1))]) hx hb dX6_coil_178 hl (by decide) rfl (fun ls hl => ?_)
        refine lv_aload_n hx hb dX6_coil_180 rfl (lv_at hl 7 rfl) ?_
        refine lv_bipush (v := 9) hx hb dX6_coil_181 (by decide) ?_
        refine g_ild hc hw 4 9 rfl rfl (by omega) (by decide) dX6_coil_183 ?_
        refine W.eq (congrArg (fun z => F0 m 184 ls (.int z :: [])) (show ((pgF S) 9 : Int32) = sT S 2 from rfl)) ?_
        refine lv_i2f hx hb dX6_coil_184 ?_
        refine lv_iload_n hx hb dX6_coil_185 rfl (lv_at hl 9 rfl) ?_
        refine lv_i2f hx hb dX6_coil_186 ?_
        refine lv_fload hx hb dX6_coil_187 (lv_at hl 3 rfl) ?_
        refine lv_fmul hx hb dX6_coil_189 (g_nn (g_mgmul (Ka := 160) (Kb := 143) (K := 177) (g_mgi _) (g_mgmo hok.f (k := 1) (by omega)) (by decide) (by decide)) (by decide)) ?_
        refine lv_iload hx hb dX6_coil_190 (lv_at hl 10 rfl) ?_
        refine lv_i2f hx hb dX6_coil_192 ?_
        refine lv_fload hx hb dX6_coil_193 (lv_at hl 4 rfl) ?_
        refine lv_fmul hx hb dX6_coil_195 (g_nn (g_mgmul (Ka := 160) (Kb := 143) (K := 177) (g_mgi _) (g_mgmo hok.f (k := 0) (by omega)) (by decide) (by decide)) (by decide)) ?_
        refine lv_fsub hx hb dX6_coil_196 (g_nn (g_mgsub (Ka := 177) (Kb := 177) (K := 177) (g_mgmul (Ka := 160) (Kb := 143) (K := 177) (g_mgi _) (g_mgmo hok.f (k := 1) (by omega)) (by decide) (by decide)) (g_mgmul (Ka := 160) (Kb := 143) (K := 177) (g_mgi _) (g_mgmo hok.f (k := 0) (by omega)) (by decide) (by decide)) (by decide) (by decide) (by decide)) (by decide)) ?_
        refine lv_fmul hx hb dX6_coil_197 (g_nn (g_mgmul (Ka := 160) (Kb := 179) (K := 213) (g_mgi _) (g_mgsub (Ka := 177) (Kb := 177) (K := 177) (g_mgmul (Ka := 160) (Kb := 143) (K := 177) (g_mgi _) (g_mgmo hok.f (k := 1) (by omega)) (by decide) (by decide)) (g_mgmul (Ka := 160) (Kb := 143) (K := 177) (g_mgi _) (g_mgmo hok.f (k := 0) (by omega)) (by decide) (by decide)) (by decide) (by decide) (by decide)) (by decide) (by decide)) (by decide)) ?_
        refine lv_ldcf (v := 1098907648) hx hb hown (hts _ (List.mem_of_getElem? (i := 4) rfl)) dX6_coil_198 ?_
        refine lv_fdiv hx hb dX6_coil_200 (g_nn (g_mgdiv (K := 210) (L := 131) (g_mgmul (Ka := 160) (Kb := 179) (K := 213) (g_mgi _) (g_mgsub (Ka := 177) (Kb := 177) (K := 177) (g_mgmul (Ka := 160) (Kb := 143) (K := 177) (g_mgi _) (g_mgmo hok.f (k := 1) (by omega)) (by decide) (by decide)) (g_mgmul (Ka := 160) (Kb := 143) (K := 177) (g_mgi _) (g_mgmo hok.f (k := 0) (by omega)) (by decide) (by decide)) (by decide) (by decide) (by decide)) (by decide) (by decide)) (by decide) (by decide) (by decide) (by decide)) (by decide)) ?_
        refine lv_aload_n hx hb dX6_coil_201 rfl (lv_at hl 7 rfl) ?_
        refine lv_bipush (v := 10) hx hb dX6_coil_202 (by decide) ?_
        refine g_ild hc hw 4 10 rfl rfl (by omega) (by decide) dX6_coil_204 ?_
        refine W.eq (congrArg (fun z => F0 m 205 ls (.int z :: [.float (FP.fdiv (FP.fmul (FP.i2f (sT S 2)) (FP.fsub (FP.fmul (FP.i2f (cmF fl nf (sK S) 0)) ((moF (sF S)) 1)) (FP.fmul (FP.i2f (cmF fl nf (sK S) 1)) ((moF (sF S)) 0)))) 1098907648)])) (show ((pgF S) 10 : Int32) = sT S 3 from rfl)) ?_
        refine g_cS (As := [.float (FP.fdiv (FP.fmul (FP.i2f (sT S 2)) (FP.fsub (FP.fmul (FP.i2f (cmF fl nf (sK S) 0)) ((moF (sF S)) 1)) (FP.fmul (FP.i2f (cmF fl nf (sK S) 1)) ((moF (sF S)) 0)))) 1098907648), .int (sT S 3)]) (n := 2) (rest := []) (wc := []) (w1 := []) (bytes := cX6_held) (maxL := 2) (ret := (some .float)) hc hw hl.1 (m_X6_held (l := l) (D := D) (E := E) (T := T) (FP.fdiv (FP.fmul (FP.i2f (sT S 2)) (FP.fsub (FP.fmul (FP.i2f (cmF fl nf (sK S) 0)) ((moF (sF S)) 1)) (FP.fmul (FP.i2f (cmF fl nf (sK S) 1)) ((moF (sF S)) 0)))) 1098907648) (sT S 3)) gX6_coil_X6_held rfl (by decide +kernel) (by rw [hR]; exact ⟨Nat.le_of_ble_eq_true rfl, Nat.le_of_ble_eq_true rfl⟩) [] (by decide) rfl [] rfl rfl rfl rfl (Nat.le_of_ble_eq_true rfl) dX6_coil_205 ⟨Nat.zero_le _, Nat.zero_le _⟩ (fun H locs hw => ?_)
        have hw : g_W D A s [(o, .inr (6, [u0, u1, u2, .ref xa, u4, .int (nI nf), .ref fa, u7, u8, u9, u10, u11, u12, u13, u14, u15, u16, u17, u18, u19, u20, u21, u22, u23, u24, u25, u26, u27, u28, u29, u30, u31, u32, .ref ma, u34, u35])), (xa, .inl (E 0, 12, .inl (g_tv 0))), (fa, .inl (E 0, 18, .inl fl)), (ma, .inl (E 1, 3, .inr (.inr (.inl (moF (sF S)))))), (pp, .inl (E 0, 29, .inl (pgF S))), (ff, .inl (E 1, 5, .inr (.inr (.inl (fl5 S)))))] H locs := hw
        refine W.eq (congrArg (fun z => F0 m 208 ls (.float z :: [])) (show (limF (FP.fdiv (FP.fmul (FP.i2f (sT S 2)) (FP.fsub (FP.fmul (FP.i2f (cmF fl nf (sK S) 0)) ((moF (sF S)) 1)) (FP.fmul (FP.i2f (cmF fl nf (sK S) 1)) ((moF (sF S)) 0)))) 1098907648) (sT S 3) : UInt32) = cuW fl nf (sK S) (sF S) (sT S) from rfl)) ?_
        refine lv_fstore (lv' := [(11, .float (cuW fl nf (sK S) (sF S) (sT S))), (10, .float (cuV fl nf (sK S) (sF S) (sT S))), (9, .float (cuU fl nf (sK S) (sF S) (sT S))), (8, .float ((moF (sF S)) 2)), (7, .float ((moF (sF S)) 1)), (6, .float ((moF (sF S)) 0)), (5, .int (cmF fl nf (sK S) 2)), (0, .ref o), (1, .ref pp), (2, .ref ff), (3, .int (cmF fl nf (sK S) 0)), (4, .int (cmF fl nf (sK S) 1))]) hx hb dX6_coil_208 hl (by decide) rfl (fun ls hl => ?_)
        refine lv_fload hx hb dX6_coil_210 (lv_at hl 0 rfl) ?_
        refine lv_iload hx hb dX6_coil_212 (lv_at hl 11 rfl) ?_
        refine lv_i2f hx hb dX6_coil_214 ?_
        refine lv_fmul hx hb dX6_coil_215 (g_nn (g_mgmul (Ka := 210) (Kb := 160) (K := 244) ((g_mgcu _ _ _ _ _ hok.f).2.2) (g_mgi _) (by decide) (by decide)) (by decide)) ?_
        refine lv_fload hx hb dX6_coil_216 (lv_at hl 1 rfl) ?_
        refine lv_iload hx hb dX6_coil_218 (lv_at hl 6 rfl) ?_
        refine lv_i2f hx hb dX6_coil_220 ?_
        refine lv_fmul hx hb dX6_coil_221 (g_nn (g_mgmul (Ka := 210) (Kb := 160) (K := 244) ((g_mgcu _ _ _ _ _ hok.f).2.1) (g_mgi _) (by decide) (by decide)) (by decide)) ?_
        refine lv_fsub hx hb dX6_coil_222 (g_nn (g_mgsub (Ka := 244) (Kb := 244) (K := 244) (g_mgmul (Ka := 210) (Kb := 160) (K := 244) ((g_mgcu _ _ _ _ _ hok.f).2.2) (g_mgi _) (by decide) (by decide)) (g_mgmul (Ka := 210) (Kb := 160) (K := 244) ((g_mgcu _ _ _ _ _ hok.f).2.1) (g_mgi _) (by decide) (by decide)) (by decide) (by decide) (by decide)) (by decide)) ?_
        refine lv_ldcf (v := 1115684864) hx hb hown (hts _ (List.mem_of_getElem? (i := 5) rfl)) dX6_coil_223 ?_
        refine lv_fdiv hx hb dX6_coil_225 (g_nn (g_mgdiv (K := 241) (L := 133) (g_mgsub (Ka := 244) (Kb := 244) (K := 244) (g_mgmul (Ka := 210) (Kb := 160) (K := 244) ((g_mgcu _ _ _ _ _ hok.f).2.2) (g_mgi _) (by decide) (by decide)) (g_mgmul (Ka := 210) (Kb := 160) (K := 244) ((g_mgcu _ _ _ _ _ hok.f).2.1) (g_mgi _) (by decide) (by decide)) (by decide) (by decide) (by decide)) (by decide) (by decide) (by decide) (by decide)) (by decide)) ?_
        refine W.eq (congrArg (fun z => F0 m 226 ls (.float z :: [])) (show (FP.fdiv (FP.fsub (FP.fmul (cuW fl nf (sK S) (sF S) (sT S)) (FP.i2f (cmF fl nf (sK S) 1))) (FP.fmul (cuV fl nf (sK S) (sF S) (sT S)) (FP.i2f (cmF fl nf (sK S) 2)))) 1115684864 : UInt32) = q1F nf fl S from rfl)) ?_
        refine lv_fstore (lv' := [(12, .float (q1F nf fl S)), (11, .float (cuW fl nf (sK S) (sF S) (sT S))), (10, .float (cuV fl nf (sK S) (sF S) (sT S))), (9, .float (cuU fl nf (sK S) (sF S) (sT S))), (8, .float ((moF (sF S)) 2)), (7, .float ((moF (sF S)) 1)), (6, .float ((moF (sF S)) 0)), (5, .int (cmF fl nf (sK S) 2)), (0, .ref o), (1, .ref pp), (2, .ref ff), (3, .int (cmF fl nf (sK S) 0)), (4, .int (cmF fl nf (sK S) 1))]) hx hb dX6_coil_226 hl (by decide) rfl (fun ls hl => ?_)
        refine lv_fload hx hb dX6_coil_228 (lv_at hl 3 rfl) ?_
        refine lv_iload hx hb dX6_coil_230 (lv_at hl 7 rfl) ?_
        refine lv_i2f hx hb dX6_coil_232 ?_
        refine lv_fmul hx hb dX6_coil_233 (g_nn (g_mgmul (Ka := 210) (Kb := 160) (K := 244) ((g_mgcu _ _ _ _ _ hok.f).1) (g_mgi _) (by decide) (by decide)) (by decide)) ?_
        refine lv_fload hx hb dX6_coil_234 (lv_at hl 1 rfl) ?_
        refine lv_iload_n hx hb dX6_coil_236 rfl (lv_at hl 11 rfl) ?_
        refine lv_i2f hx hb dX6_coil_237 ?_
        refine lv_fmul hx hb dX6_coil_238 (g_nn (g_mgmul (Ka := 210) (Kb := 160) (K := 244) ((g_mgcu _ _ _ _ _ hok.f).2.2) (g_mgi _) (by decide) (by decide)) (by decide)) ?_
        refine lv_fsub hx hb dX6_coil_239 (g_nn (g_mgsub (Ka := 244) (Kb := 244) (K := 244) (g_mgmul (Ka := 210) (Kb := 160) (K := 244) ((g_mgcu _ _ _ _ _ hok.f).1) (g_mgi _) (by decide) (by decide)) (g_mgmul (Ka := 210) (Kb := 160) (K := 244) ((g_mgcu _ _ _ _ _ hok.f).2.2) (g_mgi _) (by decide) (by decide)) (by decide) (by decide) (by decide)) (by decide)) ?_
        refine lv_ldcf (v := 1115684864) hx hb hown (hts _ (List.mem_of_getElem? (i := 5) rfl)) dX6_coil_240 ?_
        refine lv_fdiv hx hb dX6_coil_242 (g_nn (g_mgdiv (K := 241) (L := 133) (g_mgsub (Ka := 244) (Kb := 244) (K := 244) (g_mgmul (Ka := 210) (Kb := 160) (K := 244) ((g_mgcu _ _ _ _ _ hok.f).1) (g_mgi _) (by decide) (by decide)) (g_mgmul (Ka := 210) (Kb := 160) (K := 244) ((g_mgcu _ _ _ _ _ hok.f).2.2) (g_mgi _) (by decide) (by decide)) (by decide) (by decide) (by decide)) (by decide) (by decide) (by decide) (by decide)) (by decide)) ?_
        refine W.eq (congrArg (fun z => F0 m 243 ls (.float z :: [])) (show (FP.fdiv (FP.fsub (FP.fmul (cuU fl nf (sK S) (sF S) (sT S)) (FP.i2f (cmF fl nf (sK S) 2))) (FP.fmul (cuW fl nf (sK S) (sF S) (sT S)) (FP.i2f (cmF fl nf (sK S) 0)))) 1115684864 : UInt32) = q2F nf fl S from rfl)) ?_
        refine lv_fstore (lv' := [(13, .float (q2F nf fl S)), (12, .float (q1F nf fl S)), (11, .float (cuW fl nf (sK S) (sF S) (sT S))), (10, .float (cuV fl nf (sK S) (sF S) (sT S))), (9, .float (cuU fl nf (sK S) (sF S) (sT S))), (8, .float ((moF (sF S)) 2)), (7, .float ((moF (sF S)) 1)), (6, .float ((moF (sF S)) 0)), (5, .int (cmF fl nf (sK S) 2)), (0, .ref o), (1, .ref pp), (2, .ref ff), (3, .int (cmF fl nf (sK S) 0)), (4, .int (cmF fl nf (sK S) 1))]) hx hb dX6_coil_243 hl (by decide) rfl (fun ls hl => ?_)
        refine lv_fload hx hb dX6_coil_245 (lv_at hl 3 rfl) ?_
        refine lv_iload_n hx hb dX6_coil_247 rfl (lv_at hl 12 rfl) ?_
        refine lv_i2f hx hb dX6_coil_248 ?_
        refine lv_fmul hx hb dX6_coil_249 (g_nn (g_mgmul (Ka := 210) (Kb := 160) (K := 244) ((g_mgcu _ _ _ _ _ hok.f).2.1) (g_mgi _) (by decide) (by decide)) (by decide)) ?_
        refine lv_fload hx hb dX6_coil_250 (lv_at hl 4 rfl) ?_
        refine lv_iload hx hb dX6_coil_252 (lv_at hl 13 rfl) ?_
        refine lv_i2f hx hb dX6_coil_254 ?_
        refine lv_fmul hx hb dX6_coil_255 (g_nn (g_mgmul (Ka := 210) (Kb := 160) (K := 244) ((g_mgcu _ _ _ _ _ hok.f).1) (g_mgi _) (by decide) (by decide)) (by decide)) ?_
        refine lv_fsub hx hb dX6_coil_256 (g_nn (g_mgsub (Ka := 244) (Kb := 244) (K := 244) (g_mgmul (Ka := 210) (Kb := 160) (K := 244) ((g_mgcu _ _ _ _ _ hok.f).2.1) (g_mgi _) (by decide) (by decide)) (g_mgmul (Ka := 210) (Kb := 160) (K := 244) ((g_mgcu _ _ _ _ _ hok.f).1) (g_mgi _) (by decide) (by decide)) (by decide) (by decide) (by decide)) (by decide)) ?_
        refine lv_ldcf (v := 1115684864) hx hb hown (hts _ (List.mem_of_getElem? (i := 5) rfl)) dX6_coil_257 ?_
        refine lv_fdiv hx hb dX6_coil_259 (g_nn (g_mgdiv (K := 241) (L := 133) (g_mgsub (Ka := 244) (Kb := 244) (K := 244) (g_mgmul (Ka := 210) (Kb := 160) (K := 244) ((g_mgcu _ _ _ _ _ hok.f).2.1) (g_mgi _) (by decide) (by decide)) (g_mgmul (Ka := 210) (Kb := 160) (K := 244) ((g_mgcu _ _ _ _ _ hok.f).1) (g_mgi _) (by decide) (by decide)) (by decide) (by decide) (by decide)) (by decide) (by decide) (by decide) (by decide)) (by decide)) ?_
        refine W.eq (congrArg (fun z => F0 m 260 ls (.float z :: [])) (show (FP.fdiv (FP.fsub (FP.fmul (cuV fl nf (sK S) (sF S) (sT S)) (FP.i2f (cmF fl nf (sK S) 0))) (FP.fmul (cuU fl nf (sK S) (sF S) (sT S)) (FP.i2f (cmF fl nf (sK S) 1)))) 1115684864 : UInt32) = q3F nf fl S from rfl)) ?_
        refine lv_fstore (lv' := [(14, .float (q3F nf fl S)), (13, .float (q2F nf fl S)), (12, .float (q1F nf fl S)), (11, .float (cuW fl nf (sK S) (sF S) (sT S))), (10, .float (cuV fl nf (sK S) (sF S) (sT S))), (9, .float (cuU fl nf (sK S) (sF S) (sT S))), (8, .float ((moF (sF S)) 2)), (7, .float ((moF (sF S)) 1)), (6, .float ((moF (sF S)) 0)), (5, .int (cmF fl nf (sK S) 2)), (0, .ref o), (1, .ref pp), (2, .ref ff), (3, .int (cmF fl nf (sK S) 0)), (4, .int (cmF fl nf (sK S) 1))]) hx hb dX6_coil_260 hl (by decide) rfl (fun ls hl => ?_)
        refine lv_aload_n hx hb dX6_coil_262 rfl (lv_at hl 11 rfl) ?_
        refine g_cS (As := [.ref pp]) (n := 1) (rest := []) (wc := [(pp, .inl (E 0, 29, .inl (pgF S)))]) (w1 := [(pp, .inl (E 0, 29, .inl (pgF S)))]) (bytes := cX6_theDead) (maxL := 3) (ret := (some .int)) hc hw hl.1 (m_X6_theDead (l := l) (D := D) (E := E) (T := T) pp S hok.d) gX6_coil_X6_theDead rfl (by decide +kernel) (by rw [hR]; exact ⟨Nat.le_of_ble_eq_true rfl, Nat.le_of_ble_eq_true rfl⟩) [4] (by decide) rfl [pp] rfl rfl rfl rfl (Nat.le_of_ble_eq_true rfl) dX6_coil_263 ⟨Nat.zero_le _, Nat.zero_le _⟩ (fun H locs hw => ?_)
        have hw : g_W D A s [(o, .inr (6, [u0, u1, u2, .ref xa, u4, .int (nI nf), .ref fa, u7, u8, u9, u10, u11, u12, u13, u14, u15, u16, u17, u18, u19, u20, u21, u22, u23, u24, u25, u26, u27, u28, u29, u30, u31, u32, .ref ma, u34, u35])), (xa, .inl (E 0, 12, .inl (g_tv 0))), (fa, .inl (E 0, 18, .inl fl)), (ma, .inl (E 1, 3, .inr (.inr (.inl (moF (sF S)))))), (pp, .inl (E 0, 29, .inl (pgF S))), (ff, .inl (E 1, 5, .inr (.inr (.inl (fl5 S)))))] H locs := hw
        refine lv_istore (lv' := [(15, .int (tdP (sD S) 4)), (14, .float (q3F nf fl S)), (13, .float (q2F nf fl S)), (12, .float (q1F nf fl S)), (11, .float (cuW fl nf (sK S) (sF S) (sT S))), (10, .float (cuV fl nf (sK S) (sF S) (sT S))), (9, .float (cuU fl nf (sK S) (sF S) (sT S))), (8, .float ((moF (sF S)) 2)), (7, .float ((moF (sF S)) 1)), (6, .float ((moF (sF S)) 0)), (5, .int (cmF fl nf (sK S) 2)), (0, .ref o), (1, .ref pp), (2, .ref ff), (3, .int (cmF fl nf (sK S) 0)), (4, .int (cmF fl nf (sK S) 1))]) hx hb dX6_coil_266 hl (by decide) rfl (fun ls hl => ?_)
        refine lv_iconst (v := 0) hx hb dX6_coil_268 (by decide) ?_
        refine lv_istore (lv' := [(16, .int 0), (15, .int (tdP (sD S) 4)), (14, .float (q3F nf fl S)), (13, .float (q2F nf fl S)), (12, .float (q1F nf fl S)), (11, .float (cuW fl nf (sK S) (sF S) (sT S))), (10, .float (cuV fl nf (sK S) (sF S) (sT S))), (9, .float (cuU fl nf (sK S) (sF S) (sT S))), (8, .float ((moF (sF S)) 2)), (7, .float ((moF (sF S)) 1)), (6, .float ((moF (sF S)) 0)), (5, .int (cmF fl nf (sK S) 2)), (0, .ref o), (1, .ref pp), (2, .ref ff), (3, .int (cmF fl nf (sK S) 0)), (4, .int (cmF fl nf (sK S) 1))]) hx hb dX6_coil_269 hl (by decide) rfl (fun ls hl => ?_)
        have J271 : ∀ (k9 : Nat) (i : Nat), i + k9 = 4 → ∀ (H : Heap) (locs : List Loc) (ls : Array Slot), g_W D A s [(o, .inr (6, [u0, u1, u2, .ref xa, u4, .int (nI nf), .ref fa, u7, u8, u9, u10, u11, u12, u13, u14, u15, u16, u17, u18, u19, u20, u21, u22, u23, u24, u25, u26, u27, u28, u29, u30, u31, u32, .ref ma, u34, u35])), (xa, .inl (E 0, 12, .inl (g_tv 0))), (fa, .inl (E 0, 18, .inl fl)), (ma, .inl (E 1, 3, .inr (.inr (.inl (moF (sF S)))))), (pp, .inl (E 0, 29, .inl (pgF S))), (ff, .inl (E 1, 5, .inr (.inr (.inl (amP (sD S) (tuF (btF (sD S)) (q1F nf fl S) (q2F nf fl S) (q3F nf fl S) (sF S) (sT S 0)) (fl5 S) i)))))] H locs → lv_has ls 17 [(0, .ref o), (1, .ref pp), (2, .ref ff), (12, .float (q1F nf fl S)), (13, .float (q2F nf fl S)), (14, .float (q3F nf fl S)), (15, .int (tdP (sD S) 4)), (16, .int (nI i))] → W p l e R s m args below meth c H locs 0 0 Q (F0 m 271 ls []) := by
          intro k9
          induction k9 with
          | zero =>
            intro i h9   H locs ls hw hl
            have h9 : i = 4 := h9
            subst h9
            refine lv_iload hx hb dX6_coil_271 (lv_at hl 7 rfl) ?_
            refine lv_iconst (v := 4) hx hb dX6_coil_273 (by decide) ?_
            refine lv_icmp_ge (tgt := 354) hx hb dX6_coil_274 (by decide) (fun c_274 => ?_) (fun c_274 => absurd (by first | exact Int32.le_refl _ | decide) c_274)
            exact g_vret hQ hc hw hr rfl (by rw [show t2U nf fl S = wF S (amP (sD S) (tuF (btF (sD S)) (q1F nf fl S) (q2F nf fl S) (q3F nf fl S) (sF S) (sT S 0)) (sF S) 4) from rfl, pgF_wF, fl_am]; try rfl) dX6_coil_354
          | succ k9 ih =>
            intro i h9   H locs ls hw hl
            have h9b : i < 4 := by omega
            refine lv_iload hx hb dX6_coil_271 (lv_at hl 7 rfl) ?_
            refine lv_iconst (v := 4) hx hb dX6_coil_273 (by decide) ?_
            refine lv_icmp_ge (tgt := 354) hx hb dX6_coil_274 (by decide) (fun c_274 => absurd c_274 (nI_ge h9b (by decide))) (fun c_274 => ?_)
            refine lv_aload_n hx hb dX6_coil_277 rfl (lv_at hl 1 rfl) ?_
            refine lv_iconst (v := 0) hx hb dX6_coil_278 (by decide) ?_
            refine g_ild hc hw 4 0 rfl rfl (by omega) (by decide) dX6_coil_279 ?_
            refine W.eq (congrArg (fun z => F0 m 280 ls (.int z :: [])) (show ((pgF S) 0 : Int32) = nI (sD S) from rfl)) ?_
            refine lv_iload hx hb dX6_coil_280 (lv_at hl 7 rfl) ?_
            refine g_cS (As := [.int (nI (sD S)), .int (nI i)]) (n := 2) (rest := []) (wc := []) (w1 := []) (bytes := cX6_has) (maxL := 2) (ret := (some .boolean)) hc hw hl.1 (m_X6_has (l := l) (D := D) (E := E) (T := T) (sD S) i hok.d (by omega)) gX6_coil_X6_has rfl (by decide +kernel) (by rw [hR]; exact ⟨Nat.le_of_ble_eq_true rfl, Nat.le_of_ble_eq_true rfl⟩) [] (by decide) rfl [] rfl rfl rfl rfl (Nat.le_of_ble_eq_true rfl) dX6_coil_282 ⟨Nat.zero_le _, Nat.zero_le _⟩ (fun H locs hw => ?_)
            have hw : g_W D A s [(o, .inr (6, [u0, u1, u2, .ref xa, u4, .int (nI nf), .ref fa, u7, u8, u9, u10, u11, u12, u13, u14, u15, u16, u17, u18, u19, u20, u21, u22, u23, u24, u25, u26, u27, u28, u29, u30, u31, u32, .ref ma, u34, u35])), (xa, .inl (E 0, 12, .inl (g_tv 0))), (fa, .inl (E 0, 18, .inl fl)), (ma, .inl (E 1, 3, .inr (.inr (.inl (moF (sF S)))))), (pp, .inl (E 0, 29, .inl (pgF S))), (ff, .inl (E 1, 5, .inr (.inr (.inl (amP (sD S) (tuF (btF (sD S)) (q1F nf fl S) (q2F nf fl S) (q3F nf fl S) (sF S) (sT S 0)) (fl5 S) i)))))] H locs := hw
            refine lv_if_ne (tgt := 348) hx hb dX6_coil_285 (by decide) (fun c_285 => ?_) (fun c_285 => ?_)
            · skip
              have k_285 := b2i_ne c_285
              refine lv_iinc (v := nI (i + 1)) (lv' := [(16, .int (nI (i + 1))), (0, .ref o), (1, .ref pp), (2, .ref ff), (12, .float (q1F nf fl S)), (13, .float (q2F nf fl S)), (14, .float (q3F nf fl S)), (15, .int (tdP (sD S) 4))]) hx hb dX6_coil_348 hl (k := 7) rfl (n_inc1 rfl) (by decide) rfl (fun ls hl => ?_)
              refine lv_goto (tgt := 271) hx hb dX6_coil_351 (by decide) ?_
              have hw : g_W D A s [(o, .inr (6, [u0, u1, u2, .ref xa, u4, .int (nI nf), .ref fa, u7, u8, u9, u10, u11, u12, u13, u14, u15, u16, u17, u18, u19, u20, u21, u22, u23, u24, u25, u26, u27, u28, u29, u30, u31, u32, .ref ma, u34, u35])), (xa, .inl (E 0, 12, .inl (g_tv 0))), (fa, .inl (E 0, 18, .inl fl)), (ma, .inl (E 1, 3, .inr (.inr (.inl (moF (sF S)))))), (pp, .inl (E 0, 29, .inl (pgF S))), (ff, .inl (E 1, 5, .inr (.inr (.inl (amP (sD S) (tuF (btF (sD S)) (q1F nf fl S) (q2F nf fl S) (q3F nf fl S) (sF S) (sT S 0)) (fl5 S) (i + 1))))))] H locs := by
                have e5 : (amP (sD S) (tuF (btF (sD S)) (q1F nf fl S) (q2F nf fl S) (q3F nf fl S) (sF S) (sT S 0)) (fl5 S) i) = (amP (sD S) (tuF (btF (sD S)) (q1F nf fl S) (q2F nf fl S) (q3F nf fl S) (sF S) (sT S 0)) (fl5 S) (i + 1)) := by exact am_skip _ _ k_285
                rw [e5] at hw
                exact hw
              exact ih (i + 1) (by omega)   _ _ _ hw (lv_sub hl [1, 2, 3, 4, 5, 6, 7, 0] rfl)
            · skip
              have k_285 := b2i_eq c_285
              refine lv_aload_n hx hb dX6_coil_288 rfl (lv_at hl 2 rfl) ?_
              refine lv_iload hx hb dX6_coil_289 (lv_at hl 7 rfl) ?_
              refine lv_aload_n hx hb dX6_coil_291 rfl (lv_at hl 2 rfl) ?_
              refine lv_iload hx hb dX6_coil_292 (lv_at hl 7 rfl) ?_
              refine g_fld hc hw 5 i rfl rfl (by omega) (by decide) dX6_coil_294 ?_
              refine W.eq (congrArg (fun z => F0 m 295 ls (.float z :: [.int (nI i), .ref ff])) (show ((amP (sD S) (tuF (btF (sD S)) (q1F nf fl S) (q2F nf fl S) (q3F nf fl S) (sF S) (sT S 0)) (fl5 S) i) i : UInt32) = sF S i from ((am_at _ _ _).trans (fl5_lt _ (by omega))))) ?_
              refine lv_aload_n hx hb dX6_coil_295 rfl (lv_at hl 0 rfl) ?_
              refine lv_iload hx hb dX6_coil_296 (lv_at hl 7 rfl) ?_
              refine lv_iload hx hb dX6_coil_298 (lv_at hl 6 rfl) ?_
              refine lv_iconst (v := 0) hx hb dX6_coil_300 (by decide) ?_
              refine g_cV (As := [.int (nI i), .int (tdP (sD S) 4), .int 0]) (n := 3) (rest := [.float (sF S i), .int (nI i), .ref ff]) (wc := [(o, .inr (6, [u0, u1, u2, .ref xa, u4, .int (nI nf), .ref fa, u7, u8, u9, u10, u11, u12, u13, u14, u15, u16, u17, u18, u19, u20, u21, u22, u23, u24, u25, u26, u27, u28, u29, u30, u31, u32, .ref ma, u34, u35])), (xa, .inl (E 0, 12, .inl (g_tv 0)))]) (w1 := [(o, .inr (6, [u0, u1, u2, .ref xa, u4, .int (nI nf), .ref fa, u7, u8, u9, u10, u11, u12, u13, u14, u15, u16, u17, u18, u19, u20, u21, u22, u23, u24, u25, u26, u27, u28, u29, u30, u31, u32, .ref ma, u34, u35])), (xa, .inl (E 0, 12, .inl (g_tv 0)))]) (bytes := cX6_axisOf) (maxL := 4) (ret := (some .int)) hc hw hl.1 (m_X6_axisOf (l := l) (D := D) (E := E) (T := T) o xa u0 u1 u2 u4 (.int (nI nf)) (.ref fa) u7 u8 u9 u10 u11 u12 u13 u14 u15 u16 u17 u18 u19 u20 u21 u22 u23 u24 u25 u26 u27 u28 u29 u30 u31 u32 (.ref ma) u34 u35 (tdP (sD S) 4) i 0 (tdP_ok _ 4 (by omega)) (by omega) (by omega)) gX6_coil_X6_axisOf rfl (by decide +kernel) (by rw [hR]; exact ⟨Nat.le_of_ble_eq_true rfl, Nat.le_of_ble_eq_true rfl⟩) [0, 1] 0 6 rfl rfl (by decide) rfl [o, xa] rfl rfl rfl rfl (Nat.le_of_ble_eq_true rfl) dX6_coil_301 ⟨Nat.zero_le _, Nat.zero_le _⟩ (fun H locs hw => ?_)
              have hw : g_W D A s [(o, .inr (6, [u0, u1, u2, .ref xa, u4, .int (nI nf), .ref fa, u7, u8, u9, u10, u11, u12, u13, u14, u15, u16, u17, u18, u19, u20, u21, u22, u23, u24, u25, u26, u27, u28, u29, u30, u31, u32, .ref ma, u34, u35])), (xa, .inl (E 0, 12, .inl (g_tv 0))), (fa, .inl (E 0, 18, .inl fl)), (ma, .inl (E 1, 3, .inr (.inr (.inl (moF (sF S)))))), (pp, .inl (E 0, 29, .inl (pgF S))), (ff, .inl (E 1, 5, .inr (.inr (.inl (amP (sD S) (tuF (btF (sD S)) (q1F nf fl S) (q2F nf fl S) (q3F nf fl S) (sF S) (sT S 0)) (fl5 S) i)))))] H locs := hw
              refine W.eq (congrArg (fun z => F0 m 304 ls (.int z :: [.float (sF S i), .int (nI i), .ref ff])) (show (axF (tdP (sD S) 4) i 0 : Int32) = btF (sD S) (i * 3) from (ax_bt _ hok.d hp i (by omega) 0 (by omega)))) ?_
              refine lv_i2f hx hb dX6_coil_304 ?_
              refine lv_fload hx hb dX6_coil_305 (lv_at hl 3 rfl) ?_
              refine lv_fmul hx hb dX6_coil_307 (g_nn (g_mgmul (Ka := 129) (Kb := 241) (K := 244) (g_mgis 1 (bt_abs _ hok.d _ (by omega))) (g_mgcoP _ _ (g_mgcu fl nf (sK S) (sF S) (sT S) hok.f).2.2 (g_mgcu fl nf (sK S) (sF S) (sT S) hok.f).2.1) (by decide) (by decide)) (by decide)) ?_
              refine lv_aload_n hx hb dX6_coil_308 rfl (lv_at hl 0 rfl) ?_
              refine lv_iload hx hb dX6_coil_309 (lv_at hl 7 rfl) ?_
              refine lv_iload hx hb dX6_coil_311 (lv_at hl 6 rfl) ?_
              refine lv_iconst (v := 1) hx hb dX6_coil_313 (by decide) ?_
              refine g_cV (As := [.int (nI i), .int (tdP (sD S) 4), .int 1]) (n := 3) (rest := [.float (FP.fmul (FP.i2f (btF (sD S) (i * 3))) (q1F nf fl S)), .float (sF S i), .int (nI i), .ref ff]) (wc := [(o, .inr (6, [u0, u1, u2, .ref xa, u4, .int (nI nf), .ref fa, u7, u8, u9, u10, u11, u12, u13, u14, u15, u16, u17, u18, u19, u20, u21, u22, u23, u24, u25, u26, u27, u28, u29, u30, u31, u32, .ref ma, u34, u35])), (xa, .inl (E 0, 12, .inl (g_tv 0)))]) (w1 := [(o, .inr (6, [u0, u1, u2, .ref xa, u4, .int (nI nf), .ref fa, u7, u8, u9, u10, u11, u12, u13, u14, u15, u16, u17, u18, u19, u20, u21, u22, u23, u24, u25, u26, u27, u28, u29, u30, u31, u32, .ref ma, u34, u35])), (xa, .inl (E 0, 12, .inl (g_tv 0)))]) (bytes := cX6_axisOf) (maxL := 4) (ret := (some .int)) hc hw hl.1 (m_X6_axisOf (l := l) (D := D) (E := E) (T := T) o xa u0 u1 u2 u4 (.int (nI nf)) (.ref fa) u7 u8 u9 u10 u11 u12 u13 u14 u15 u16 u17 u18 u19 u20 u21 u22 u23 u24 u25 u26 u27 u28 u29 u30 u31 u32 (.ref ma) u34 u35 (tdP (sD S) 4) i 1 (tdP_ok _ 4 (by omega)) (by omega) (by omega)) gX6_coil_X6_axisOf rfl (by decide +kernel) (by rw [hR]; exact ⟨Nat.le_of_ble_eq_true rfl, Nat.le_of_ble_eq_true rfl⟩) [0, 1] 0 6 rfl rfl (by decide) rfl [o, xa] rfl rfl rfl rfl (Nat.le_of_ble_eq_true rfl) dX6_coil_314 ⟨Nat.zero_le _, Nat.zero_le _⟩ (fun H locs hw => ?_)
              have hw : g_W D A s [(o, .inr (6, [u0, u1, u2, .ref xa, u4, .int (nI nf), .ref fa, u7, u8, u9, u10, u11, u12, u13, u14, u15, u16, u17, u18, u19, u20, u21, u22, u23, u24, u25, u26, u27, u28, u29, u30, u31, u32, .ref ma, u34, u35])), (xa, .inl (E 0, 12, .inl (g_tv 0))), (fa, .inl (E 0, 18, .inl fl)), (ma, .inl (E 1, 3, .inr (.inr (.inl (moF (sF S)))))), (pp, .inl (E 0, 29, .inl (pgF S))), (ff, .inl (E 1, 5, .inr (.inr (.inl (amP (sD S) (tuF (btF (sD S)) (q1F nf fl S) (q2F nf fl S) (q3F nf fl S) (sF S) (sT S 0)) (fl5 S) i)))))] H locs := hw
              refine W.eq (congrArg (fun z => F0 m 317 ls (.int z :: [.float (FP.fmul (FP.i2f (btF (sD S) (i * 3))) (q1F nf fl S)), .float (sF S i), .int (nI i), .ref ff])) (show (axF (tdP (sD S) 4) i 1 : Int32) = btF (sD S) (i * 3 + 1) from (ax_bt _ hok.d hp i (by omega) 1 (by omega)))) ?_
              refine lv_i2f hx hb dX6_coil_317 ?_
              refine lv_fload hx hb dX6_coil_318 (lv_at hl 4 rfl) ?_
              refine lv_fmul hx hb dX6_coil_320 (g_nn (g_mgmul (Ka := 129) (Kb := 241) (K := 244) (g_mgis 1 (bt_abs _ hok.d _ (by omega))) (g_mgcoP _ _ (g_mgcu fl nf (sK S) (sF S) (sT S) hok.f).1 (g_mgcu fl nf (sK S) (sF S) (sT S) hok.f).2.2) (by decide) (by decide)) (by decide)) ?_
              refine lv_fadd hx hb dX6_coil_321 (g_nn (g_mgadd (Ka := 244) (Kb := 244) (K := 244) (g_mgmul (Ka := 129) (Kb := 241) (K := 244) (g_mgis 1 (bt_abs _ hok.d _ (by omega))) (g_mgcoP _ _ (g_mgcu fl nf (sK S) (sF S) (sT S) hok.f).2.2 (g_mgcu fl nf (sK S) (sF S) (sT S) hok.f).2.1) (by decide) (by decide)) (g_mgmul (Ka := 129) (Kb := 241) (K := 244) (g_mgis 1 (bt_abs _ hok.d _ (by omega))) (g_mgcoP _ _ (g_mgcu fl nf (sK S) (sF S) (sT S) hok.f).1 (g_mgcu fl nf (sK S) (sF S) (sT S) hok.f).2.2) (by decide) (by decide)) (by decide) (by decide) (by decide)) (by decide)) ?_
              refine lv_aload_n hx hb dX6_coil_322 rfl (lv_at hl 0 rfl) ?_
              refine lv_iload hx hb dX6_coil_323 (lv_at hl 7 rfl) ?_
              refine lv_iload hx hb dX6_coil_325 (lv_at hl 6 rfl) ?_
              refine lv_iconst (v := 2) hx hb dX6_coil_327 (by decide) ?_
              refine g_cV (As := [.int (nI i), .int (tdP (sD S) 4), .int 2]) (n := 3) (rest := [.float (FP.fadd (FP.fmul (FP.i2f (btF (sD S) (i * 3))) (q1F nf fl S)) (FP.fmul (FP.i2f (btF (sD S) (i * 3 + 1))) (q2F nf fl S))), .float (sF S i), .int (nI i), .ref ff]) (wc := [(o, .inr (6, [u0, u1, u2, .ref xa, u4, .int (nI nf), .ref fa, u7, u8, u9, u10, u11, u12, u13, u14, u15, u16, u17, u18, u19, u20, u21, u22, u23, u24, u25, u26, u27, u28, u29, u30, u31, u32, .ref ma, u34, u35])), (xa, .inl (E 0, 12, .inl (g_tv 0)))]) (w1 := [(o, .inr (6, [u0, u1, u2, .ref xa, u4, .int (nI nf), .ref fa, u7, u8, u9, u10, u11, u12, u13, u14, u15, u16, u17, u18, u19, u20, u21, u22, u23, u24, u25, u26, u27, u28, u29, u30, u31, u32, .ref ma, u34, u35])), (xa, .inl (E 0, 12, .inl (g_tv 0)))]) (bytes := cX6_axisOf) (maxL := 4) (ret := (some .int)) hc hw hl.1 (m_X6_axisOf (l := l) (D := D) (E := E) (T := T) o xa u0 u1 u2 u4 (.int (nI nf)) (.ref fa) u7 u8 u9 u10 u11 u12 u13 u14 u15 u16 u17 u18 u19 u20 u21 u22 u23 u24 u25 u26 u27 u28 u29 u30 u31 u32 (.ref ma) u34 u35 (tdP (sD S) 4) i 2 (tdP_ok _ 4 (by omega)) (by omega) (by omega)) gX6_coil_X6_axisOf rfl (by decide +kernel) (by rw [hR]; exact ⟨Nat.le_of_ble_eq_true rfl, Nat.le_of_ble_eq_true rfl⟩) [0, 1] 0 6 rfl rfl (by decide) rfl [o, xa] rfl rfl rfl rfl (Nat.le_of_ble_eq_true rfl) dX6_coil_328 ⟨Nat.zero_le _, Nat.zero_le _⟩ (fun H locs hw => ?_)
              have hw : g_W D A s [(o, .inr (6, [u0, u1, u2, .ref xa, u4, .int (nI nf), .ref fa, u7, u8, u9, u10, u11, u12, u13, u14, u15, u16, u17, u18, u19, u20, u21, u22, u23, u24, u25, u26, u27, u28, u29, u30, u31, u32, .ref ma, u34, u35])), (xa, .inl (E 0, 12, .inl (g_tv 0))), (fa, .inl (E 0, 18, .inl fl)), (ma, .inl (E 1, 3, .inr (.inr (.inl (moF (sF S)))))), (pp, .inl (E 0, 29, .inl (pgF S))), (ff, .inl (E 1, 5, .inr (.inr (.inl (amP (sD S) (tuF (btF (sD S)) (q1F nf fl S) (q2F nf fl S) (q3F nf fl S) (sF S) (sT S 0)) (fl5 S) i)))))] H locs := hw
              refine W.eq (congrArg (fun z => F0 m 331 ls (.int z :: [.float (FP.fadd (FP.fmul (FP.i2f (btF (sD S) (i * 3))) (q1F nf fl S)) (FP.fmul (FP.i2f (btF (sD S) (i * 3 + 1))) (q2F nf fl S))), .float (sF S i), .int (nI i), .ref ff])) (show (axF (tdP (sD S) 4) i 2 : Int32) = btF (sD S) (i * 3 + 2) from (ax_bt _ hok.d hp i (by omega) 2 (by omega)))) ?_
              refine lv_i2f hx hb dX6_coil_331 ?_
              refine lv_fload hx hb dX6_coil_332 (lv_at hl 5 rfl) ?_
              refine lv_fmul hx hb dX6_coil_334 (g_nn (g_mgmul (Ka := 129) (Kb := 241) (K := 244) (g_mgis 1 (bt_abs _ hok.d _ (by omega))) (g_mgcoP _ _ (g_mgcu fl nf (sK S) (sF S) (sT S) hok.f).2.1 (g_mgcu fl nf (sK S) (sF S) (sT S) hok.f).1) (by decide) (by decide)) (by decide)) ?_
              refine lv_fadd hx hb dX6_coil_335 (g_nn (g_mgadd (Ka := 246) (Kb := 244) (K := 246) (g_mgadd (Ka := 244) (Kb := 244) (K := 244) (g_mgmul (Ka := 129) (Kb := 241) (K := 244) (g_mgis 1 (bt_abs _ hok.d _ (by omega))) (g_mgcoP _ _ (g_mgcu fl nf (sK S) (sF S) (sT S) hok.f).2.2 (g_mgcu fl nf (sK S) (sF S) (sT S) hok.f).2.1) (by decide) (by decide)) (g_mgmul (Ka := 129) (Kb := 241) (K := 244) (g_mgis 1 (bt_abs _ hok.d _ (by omega))) (g_mgcoP _ _ (g_mgcu fl nf (sK S) (sF S) (sT S) hok.f).1 (g_mgcu fl nf (sK S) (sF S) (sT S) hok.f).2.2) (by decide) (by decide)) (by decide) (by decide) (by decide)) (g_mgmul (Ka := 129) (Kb := 241) (K := 244) (g_mgis 1 (bt_abs _ hok.d _ (by omega))) (g_mgcoP _ _ (g_mgcu fl nf (sK S) (sF S) (sT S) hok.f).2.1 (g_mgcu fl nf (sK S) (sF S) (sT S) hok.f).1) (by decide) (by decide)) (by decide) (by decide) (by decide)) (by decide)) ?_
              refine lv_ldcf (v := 1082130432) hx hb hown (hts _ (List.mem_of_getElem? (i := 6) rfl)) dX6_coil_336 ?_
              refine lv_fdiv hx hb dX6_coil_338 (g_nn (g_mgdiv (K := 247) (L := 129) (g_mgadd (Ka := 246) (Kb := 244) (K := 246) (g_mgadd (Ka := 244) (Kb := 244) (K := 244) (g_mgmul (Ka := 129) (Kb := 241) (K := 244) (g_mgis 1 (bt_abs _ hok.d _ (by omega))) (g_mgcoP _ _ (g_mgcu fl nf (sK S) (sF S) (sT S) hok.f).2.2 (g_mgcu fl nf (sK S) (sF S) (sT S) hok.f).2.1) (by decide) (by decide)) (g_mgmul (Ka := 129) (Kb := 241) (K := 244) (g_mgis 1 (bt_abs _ hok.d _ (by omega))) (g_mgcoP _ _ (g_mgcu fl nf (sK S) (sF S) (sT S) hok.f).1 (g_mgcu fl nf (sK S) (sF S) (sT S) hok.f).2.2) (by decide) (by decide)) (by decide) (by decide) (by decide)) (g_mgmul (Ka := 129) (Kb := 241) (K := 244) (g_mgis 1 (bt_abs _ hok.d _ (by omega))) (g_mgcoP _ _ (g_mgcu fl nf (sK S) (sF S) (sT S) hok.f).2.1 (g_mgcu fl nf (sK S) (sF S) (sT S) hok.f).1) (by decide) (by decide)) (by decide) (by decide) (by decide)) (by decide) (by decide) (by decide) (by decide)) (by decide)) ?_
              refine lv_fadd hx hb dX6_coil_339 (g_nn (g_mgadd (Ka := 135) (Kb := 247) (K := 247) (hok.f i (by omega)) (g_mgdiv (K := 247) (L := 129) (g_mgadd (Ka := 246) (Kb := 244) (K := 246) (g_mgadd (Ka := 244) (Kb := 244) (K := 244) (g_mgmul (Ka := 129) (Kb := 241) (K := 244) (g_mgis 1 (bt_abs _ hok.d _ (by omega))) (g_mgcoP _ _ (g_mgcu fl nf (sK S) (sF S) (sT S) hok.f).2.2 (g_mgcu fl nf (sK S) (sF S) (sT S) hok.f).2.1) (by decide) (by decide)) (g_mgmul (Ka := 129) (Kb := 241) (K := 244) (g_mgis 1 (bt_abs _ hok.d _ (by omega))) (g_mgcoP _ _ (g_mgcu fl nf (sK S) (sF S) (sT S) hok.f).1 (g_mgcu fl nf (sK S) (sF S) (sT S) hok.f).2.2) (by decide) (by decide)) (by decide) (by decide) (by decide)) (g_mgmul (Ka := 129) (Kb := 241) (K := 244) (g_mgis 1 (bt_abs _ hok.d _ (by omega))) (g_mgcoP _ _ (g_mgcu fl nf (sK S) (sF S) (sT S) hok.f).2.1 (g_mgcu fl nf (sK S) (sF S) (sT S) hok.f).1) (by decide) (by decide)) (by decide) (by decide) (by decide)) (by decide) (by decide) (by decide) (by decide)) (by decide) (by decide) (by decide)) (by decide)) ?_
              refine lv_aload_n hx hb dX6_coil_340 rfl (lv_at hl 1 rfl) ?_
              refine lv_bipush (v := 7) hx hb dX6_coil_341 (by decide) ?_
              refine g_ild hc hw 4 7 rfl rfl (by omega) (by decide) dX6_coil_343 ?_
              refine W.eq (congrArg (fun z => F0 m 344 ls (.int z :: [.float (FP.fadd (sF S i) (FP.fdiv (FP.fadd (FP.fadd (FP.fmul (FP.i2f (btF (sD S) (i * 3))) (q1F nf fl S)) (FP.fmul (FP.i2f (btF (sD S) (i * 3 + 1))) (q2F nf fl S))) (FP.fmul (FP.i2f (btF (sD S) (i * 3 + 2))) (q3F nf fl S))) 1082130432)), .int (nI i), .ref ff])) (show ((pgF S) 7 : Int32) = sT S 0 from rfl)) ?_
              refine g_cS (As := [.float (FP.fadd (sF S i) (FP.fdiv (FP.fadd (FP.fadd (FP.fmul (FP.i2f (btF (sD S) (i * 3))) (q1F nf fl S)) (FP.fmul (FP.i2f (btF (sD S) (i * 3 + 1))) (q2F nf fl S))) (FP.fmul (FP.i2f (btF (sD S) (i * 3 + 2))) (q3F nf fl S))) 1082130432)), .int (sT S 0)]) (n := 2) (rest := [.int (nI i), .ref ff]) (wc := []) (w1 := []) (bytes := cX6_held) (maxL := 2) (ret := (some .float)) hc hw hl.1 (m_X6_held (l := l) (D := D) (E := E) (T := T) (FP.fadd (sF S i) (FP.fdiv (FP.fadd (FP.fadd (FP.fmul (FP.i2f (btF (sD S) (i * 3))) (q1F nf fl S)) (FP.fmul (FP.i2f (btF (sD S) (i * 3 + 1))) (q2F nf fl S))) (FP.fmul (FP.i2f (btF (sD S) (i * 3 + 2))) (q3F nf fl S))) 1082130432)) (sT S 0)) gX6_coil_X6_held rfl (by decide +kernel) (by rw [hR]; exact ⟨Nat.le_of_ble_eq_true rfl, Nat.le_of_ble_eq_true rfl⟩) [] (by decide) rfl [] rfl rfl rfl rfl (Nat.le_of_ble_eq_true rfl) dX6_coil_344 ⟨Nat.zero_le _, Nat.zero_le _⟩ (fun H locs hw => ?_)
              have hw : g_W D A s [(o, .inr (6, [u0, u1, u2, .ref xa, u4, .int (nI nf), .ref fa, u7, u8, u9, u10, u11, u12, u13, u14, u15, u16, u17, u18, u19, u20, u21, u22, u23, u24, u25, u26, u27, u28, u29, u30, u31, u32, .ref ma, u34, u35])), (xa, .inl (E 0, 12, .inl (g_tv 0))), (fa, .inl (E 0, 18, .inl fl)), (ma, .inl (E 1, 3, .inr (.inr (.inl (moF (sF S)))))), (pp, .inl (E 0, 29, .inl (pgF S))), (ff, .inl (E 1, 5, .inr (.inr (.inl (amP (sD S) (tuF (btF (sD S)) (q1F nf fl S) (q2F nf fl S) (q3F nf fl S) (sF S) (sT S 0)) (fl5 S) i)))))] H locs := hw
              refine g_fst hc hw 5 i rfl rfl (by omega) (by decide) dX6_coil_347 (fun H locs hw => ?_)
              have hw : g_W D A s [(o, .inr (6, [u0, u1, u2, .ref xa, u4, .int (nI nf), .ref fa, u7, u8, u9, u10, u11, u12, u13, u14, u15, u16, u17, u18, u19, u20, u21, u22, u23, u24, u25, u26, u27, u28, u29, u30, u31, u32, .ref ma, u34, u35])), (xa, .inl (E 0, 12, .inl (g_tv 0))), (fa, .inl (E 0, 18, .inl fl)), (ma, .inl (E 1, 3, .inr (.inr (.inl (moF (sF S)))))), (pp, .inl (E 0, 29, .inl (pgF S))), (ff, .inl (E 1, 5, .inr (.inr (.inl (vf_upd (amP (sD S) (tuF (btF (sD S)) (q1F nf fl S) (q2F nf fl S) (q3F nf fl S) (sF S) (sT S 0)) (fl5 S) i) i (limF (FP.fadd (sF S i) (FP.fdiv (FP.fadd (FP.fadd (FP.fmul (FP.i2f (btF (sD S) (i * 3))) (q1F nf fl S)) (FP.fmul (FP.i2f (btF (sD S) (i * 3 + 1))) (q2F nf fl S))) (FP.fmul (FP.i2f (btF (sD S) (i * 3 + 2))) (q3F nf fl S))) 1082130432)) (sT S 0)))))))] H locs := hw
              refine lv_iinc (v := nI (i + 1)) (lv' := [(16, .int (nI (i + 1))), (0, .ref o), (1, .ref pp), (2, .ref ff), (12, .float (q1F nf fl S)), (13, .float (q2F nf fl S)), (14, .float (q3F nf fl S)), (15, .int (tdP (sD S) 4))]) hx hb dX6_coil_348 hl (k := 7) rfl (n_inc1 rfl) (by decide) rfl (fun ls hl => ?_)
              refine lv_goto (tgt := 271) hx hb dX6_coil_351 (by decide) ?_
              have hw : g_W D A s [(o, .inr (6, [u0, u1, u2, .ref xa, u4, .int (nI nf), .ref fa, u7, u8, u9, u10, u11, u12, u13, u14, u15, u16, u17, u18, u19, u20, u21, u22, u23, u24, u25, u26, u27, u28, u29, u30, u31, u32, .ref ma, u34, u35])), (xa, .inl (E 0, 12, .inl (g_tv 0))), (fa, .inl (E 0, 18, .inl fl)), (ma, .inl (E 1, 3, .inr (.inr (.inl (moF (sF S)))))), (pp, .inl (E 0, 29, .inl (pgF S))), (ff, .inl (E 1, 5, .inr (.inr (.inl (amP (sD S) (tuF (btF (sD S)) (q1F nf fl S) (q2F nf fl S) (q3F nf fl S) (sF S) (sT S 0)) (fl5 S) (i + 1))))))] H locs := by
                have e5 : (vf_upd (amP (sD S) (tuF (btF (sD S)) (q1F nf fl S) (q2F nf fl S) (q3F nf fl S) (sF S) (sT S 0)) (fl5 S) i) i (limF (FP.fadd (sF S i) (FP.fdiv (FP.fadd (FP.fadd (FP.fmul (FP.i2f (btF (sD S) (i * 3))) (q1F nf fl S)) (FP.fmul (FP.i2f (btF (sD S) (i * 3 + 1))) (q2F nf fl S))) (FP.fmul (FP.i2f (btF (sD S) (i * 3 + 2))) (q3F nf fl S))) 1082130432)) (sT S 0))) = (amP (sD S) (tuF (btF (sD S)) (q1F nf fl S) (q2F nf fl S) (q3F nf fl S) (sF S) (sT S 0)) (fl5 S) (i + 1)) := by exact am_step _ k_285 rfl
                rw [e5] at hw
                exact hw
              exact ih (i + 1) (by omega)   _ _ _ hw (lv_sub hl [1, 2, 3, 4, 5, 6, 7, 0] rfl)
        have hw : g_W D A s [(o, .inr (6, [u0, u1, u2, .ref xa, u4, .int (nI nf), .ref fa, u7, u8, u9, u10, u11, u12, u13, u14, u15, u16, u17, u18, u19, u20, u21, u22, u23, u24, u25, u26, u27, u28, u29, u30, u31, u32, .ref ma, u34, u35])), (xa, .inl (E 0, 12, .inl (g_tv 0))), (fa, .inl (E 0, 18, .inl fl)), (ma, .inl (E 1, 3, .inr (.inr (.inl (moF (sF S)))))), (pp, .inl (E 0, 29, .inl (pgF S))), (ff, .inl (E 1, 5, .inr (.inr (.inl (amP (sD S) (tuF (btF (sD S)) (q1F nf fl S) (q2F nf fl S) (q3F nf fl S) (sF S) (sT S 0)) (fl5 S) 0)))))] H locs := by
          have e5 : (fl5 S) = (amP (sD S) (tuF (btF (sD S)) (q1F nf fl S) (q2F nf fl S) (q3F nf fl S) (sF S) (sT S 0)) (fl5 S) 0) := by exact am_0 _ _ _
          rw [e5] at hw
          exact hw
        exact J271 4 0 (by omega)   _ _ _ hw (lv_sub hl [12, 13, 14, 4, 3, 2, 1, 0] rfl)
      refine lv_if_ne (tgt := 70) hx hb dX6_coil_63 (by decide) (fun c_63 => ?_) (fun c_63 => ?_)
      · skip
        have hn2 : 0 < nf := Nat.pos_of_ne_zero (fun q => c_63 (by rw [q]; rfl))
        refine lv_aload_n hx hb dX6_coil_70 rfl (lv_at hl 1 rfl) ?_
        refine g_get (TT := TX6) hc hw inX6_coil_X6 0 6 2 rfl rfl (by decide) rfl rfl dX6_coil_71 ?_
        refine lv_iconst (v := 3) hx hb dX6_coil_74 (by decide) ?_
        refine lv_aload_n hx hb dX6_coil_75 rfl (lv_at hl 2 rfl) ?_
        refine lv_bipush (v := 6) hx hb dX6_coil_76 (by decide) ?_
        refine g_ild hc hw 4 6 rfl rfl (by omega) (by decide) dX6_coil_78 ?_
        refine W.eq (congrArg (fun z => F0 m 79 ls (.int z :: [.int 3, .ref fa])) (show ((pgF S) 6 : Int32) = nI (sK S) from rfl)) ?_
        refine lv_aload_n hx hb dX6_coil_79 rfl (lv_at hl 1 rfl) ?_
        refine g_get (TT := TX6) hc hw inX6_coil_X6 0 5 1 rfl rfl (by decide) rfl rfl dX6_coil_80 ?_
        refine lv_irem hx hb dX6_coil_83 (nI_ne0 hn2 (by omega)) ?_
        refine lv_imul hx hb dX6_coil_84 ?_
        refine lv_iconst (v := 2) hx hb dX6_coil_85 (by decide) ?_
        refine lv_iadd hx hb dX6_coil_86 ?_
        refine g_ild hc hw 2 ((3 * ((sK S) % nf)) + 2) rfl (n_add (n_mul rfl (n_rem rfl rfl (by omega) (by omega) (by omega))) rfl) (by have := Nat.mod_lt (sK S) hn2; omega) (by decide) dX6_coil_87 ?_
        refine W.eq (congrArg (fun z => F0 m 88 ls (.int z :: [])) (show (fl ((3 * ((sK S) % nf)) + 2) : Int32) = cmF fl nf (sK S) 2 by exact cm_f hn2)) ?_
        exact J88   _ _ _ hw (lv_sub hl [1, 2, 3, 4, 0] rfl)
      · skip
        have hn2 : nf = 0 := (nI_eq (by omega) (by decide)).mp c_63
        refine lv_iconst (v := 0) hx hb dX6_coil_66 (by decide) ?_
        refine lv_goto (tgt := 88) hx hb dX6_coil_67 (by decide) ?_
        refine W.eq (congrArg (fun z => F0 m 88 ls (.int z :: [])) (show (0 : Int32) = cmF fl nf (sK S) 2 by rw [hn2]; rfl)) ?_
        exact J88   _ _ _ hw (lv_sub hl [1, 2, 3, 4, 0] rfl)
    refine lv_if_ne (tgt := 39) hx hb dX6_coil_32 (by decide) (fun c_32 => ?_) (fun c_32 => ?_)
    · skip
      have hn1 : 0 < nf := Nat.pos_of_ne_zero (fun q => c_32 (by rw [q]; rfl))
      refine lv_aload_n hx hb dX6_coil_39 rfl (lv_at hl 1 rfl) ?_
      refine g_get (TT := TX6) hc hw inX6_coil_X6 0 6 2 rfl rfl (by decide) rfl rfl dX6_coil_40 ?_
      refine lv_iconst (v := 3) hx hb dX6_coil_43 (by decide) ?_
      refine lv_aload_n hx hb dX6_coil_44 rfl (lv_at hl 2 rfl) ?_
      refine lv_bipush (v := 6) hx hb dX6_coil_45 (by decide) ?_
      refine g_ild hc hw 4 6 rfl rfl (by omega) (by decide) dX6_coil_47 ?_
      refine W.eq (congrArg (fun z => F0 m 48 ls (.int z :: [.int 3, .ref fa])) (show ((pgF S) 6 : Int32) = nI (sK S) from rfl)) ?_
      refine lv_aload_n hx hb dX6_coil_48 rfl (lv_at hl 1 rfl) ?_
      refine g_get (TT := TX6) hc hw inX6_coil_X6 0 5 1 rfl rfl (by decide) rfl rfl dX6_coil_49 ?_
      refine lv_irem hx hb dX6_coil_52 (nI_ne0 hn1 (by omega)) ?_
      refine lv_imul hx hb dX6_coil_53 ?_
      refine lv_iconst (v := 1) hx hb dX6_coil_54 (by decide) ?_
      refine lv_iadd hx hb dX6_coil_55 ?_
      refine g_ild hc hw 2 ((3 * ((sK S) % nf)) + 1) rfl (n_add (n_mul rfl (n_rem rfl rfl (by omega) (by omega) (by omega))) rfl) (by have := Nat.mod_lt (sK S) hn1; omega) (by decide) dX6_coil_56 ?_
      refine W.eq (congrArg (fun z => F0 m 57 ls (.int z :: [])) (show (fl ((3 * ((sK S) % nf)) + 1) : Int32) = cmF fl nf (sK S) 1 by exact cm_f hn1)) ?_
      exact J57   _ _ _ hw (lv_sub hl [1, 2, 3, 0] rfl)
    · skip
      have hn1 : nf = 0 := (nI_eq (by omega) (by decide)).mp c_32
      refine lv_iconst (v := 0) hx hb dX6_coil_35 (by decide) ?_
      refine lv_goto (tgt := 57) hx hb dX6_coil_36 (by decide) ?_
      refine W.eq (congrArg (fun z => F0 m 57 ls (.int z :: [])) (show (0 : Int32) = cmF fl nf (sK S) 1 by rw [hn1]; rfl)) ?_
      exact J57   _ _ _ hw (lv_sub hl [1, 2, 3, 0] rfl)
  refine lv_if_ne (tgt := 11) hx hb dX6_coil_4 (by decide) (fun c_4 => ?_) (fun c_4 => ?_)
  · skip
    have hn0 : 0 < nf := Nat.pos_of_ne_zero (fun q => c_4 (by rw [q]; rfl))
    refine lv_aload_n hx hb dX6_coil_11 rfl (lv_at hl 0 rfl) ?_
    refine g_get (TT := TX6) hc hw inX6_coil_X6 0 6 2 rfl rfl (by decide) rfl rfl dX6_coil_12 ?_
    refine lv_iconst (v := 3) hx hb dX6_coil_15 (by decide) ?_
    refine lv_aload_n hx hb dX6_coil_16 rfl (lv_at hl 1 rfl) ?_
    refine lv_bipush (v := 6) hx hb dX6_coil_17 (by decide) ?_
    refine g_ild hc hw 4 6 rfl rfl (by omega) (by decide) dX6_coil_19 ?_
    refine W.eq (congrArg (fun z => F0 m 20 ls (.int z :: [.int 3, .ref fa])) (show ((pgF S) 6 : Int32) = nI (sK S) from rfl)) ?_
    refine lv_aload_n hx hb dX6_coil_20 rfl (lv_at hl 0 rfl) ?_
    refine g_get (TT := TX6) hc hw inX6_coil_X6 0 5 1 rfl rfl (by decide) rfl rfl dX6_coil_21 ?_
    refine lv_irem hx hb dX6_coil_24 (nI_ne0 hn0 (by omega)) ?_
    refine lv_imul hx hb dX6_coil_25 ?_
    refine g_ild hc hw 2 (3 * ((sK S) % nf)) rfl (n_mul rfl (n_rem rfl rfl (by omega) (by omega) (by omega))) (by have := Nat.mod_lt (sK S) hn0; omega) (by decide) dX6_coil_26 ?_
    refine W.eq (congrArg (fun z => F0 m 27 ls (.int z :: [])) (show (fl (3 * ((sK S) % nf)) : Int32) = cmF fl nf (sK S) 0 by exact cm_f0 hn0)) ?_
    exact J27   _ _ _ hw (lv_sub hl [0, 1, 2] rfl)
  · skip
    have hn0 : nf = 0 := (nI_eq (by omega) (by decide)).mp c_4
    refine lv_iconst (v := 0) hx hb dX6_coil_7 (by decide) ?_
    refine lv_goto (tgt := 27) hx hb dX6_coil_8 (by decide) ?_
    refine W.eq (congrArg (fun z => F0 m 27 ls (.int z :: [])) (show (0 : Int32) = cmF fl nf (sK S) 0 by rw [hn0]; rfl)) ?_
    exact J27   _ _ _ hw (lv_sub hl [0, 1, 2] rfl)

theorem dX6_tickBy_0 : decode cX6_tickBy 0 = .ok (.aload_n 1, 1) := by decide +kernel
theorem dX6_tickBy_1 : decode cX6_tickBy 1 = .ok (.iconst 1, 1) := by decide +kernel
theorem dX6_tickBy_2 : decode cX6_tickBy 2 = .ok (.iaload, 1) := by decide +kernel
theorem dX6_tickBy_3 : decode cX6_tickBy 3 = .ok (.iconst 1, 1) := by decide +kernel
theorem dX6_tickBy_4 : decode cX6_tickBy 4 = .ok (.if_icmp .ne 7, 3) := by decide +kernel
theorem dX6_tickBy_7 : decode cX6_tickBy 7 = .ok (.iconst 1, 1) := by decide +kernel
theorem dX6_tickBy_8 : decode cX6_tickBy 8 = .ok (.goto 4, 3) := by decide +kernel
theorem dX6_tickBy_11 : decode cX6_tickBy 11 = .ok (.iconst 0, 1) := by decide +kernel
theorem dX6_tickBy_12 : decode cX6_tickBy 12 = .ok (.istore 6, 2) := by decide +kernel
theorem dX6_tickBy_14 : decode cX6_tickBy 14 = .ok (.iload 6, 2) := by decide +kernel
theorem dX6_tickBy_16 : decode cX6_tickBy 16 = .ok (.ifCond .ne 22, 3) := by decide +kernel
theorem dX6_tickBy_19 : decode cX6_tickBy 19 = .ok (.aload_n 0, 1) := by decide +kernel
theorem dX6_tickBy_20 : decode cX6_tickBy 20 = .ok (.aload_n 1, 1) := by decide +kernel
theorem dX6_tickBy_21 : decode cX6_tickBy 21 = .ok (.iload_n 3, 1) := by decide +kernel
theorem dX6_tickBy_22 : decode cX6_tickBy 22 = .ok (.iload 4, 2) := by decide +kernel
theorem dX6_tickBy_24 : decode cX6_tickBy 24 = .ok (.iload 5, 2) := by decide +kernel
theorem dX6_tickBy_26 : decode cX6_tickBy 26 = .ok (.invokevirtual 194, 3) := by decide +kernel
theorem dX6_tickBy_29 : decode cX6_tickBy 29 = .ok (.aload_n 0, 1) := by decide +kernel
theorem dX6_tickBy_30 : decode cX6_tickBy 30 = .ok (.aload_n 1, 1) := by decide +kernel
theorem dX6_tickBy_31 : decode cX6_tickBy 31 = .ok (.aload_n 2, 1) := by decide +kernel
theorem dX6_tickBy_32 : decode cX6_tickBy 32 = .ok (.invokevirtual 198, 3) := by decide +kernel
theorem dX6_tickBy_35 : decode cX6_tickBy 35 = .ok (.goto 25, 3) := by decide +kernel
theorem dX6_tickBy_38 : decode cX6_tickBy 38 = .ok (.aload_n 2, 1) := by decide +kernel
theorem dX6_tickBy_39 : decode cX6_tickBy 39 = .ok (.iconst 4, 1) := by decide +kernel
theorem dX6_tickBy_40 : decode cX6_tickBy 40 = .ok (.aload_n 2, 1) := by decide +kernel
theorem dX6_tickBy_41 : decode cX6_tickBy 41 = .ok (.iconst 4, 1) := by decide +kernel
theorem dX6_tickBy_42 : decode cX6_tickBy 42 = .ok (.faload, 1) := by decide +kernel
theorem dX6_tickBy_43 : decode cX6_tickBy 43 = .ok (.fconst 2, 1) := by decide +kernel
theorem dX6_tickBy_44 : decode cX6_tickBy 44 = .ok (.aload_n 2, 1) := by decide +kernel
theorem dX6_tickBy_45 : decode cX6_tickBy 45 = .ok (.iconst 4, 1) := by decide +kernel
theorem dX6_tickBy_46 : decode cX6_tickBy 46 = .ok (.faload, 1) := by decide +kernel
theorem dX6_tickBy_47 : decode cX6_tickBy 47 = .ok (.fsub, 1) := by decide +kernel
theorem dX6_tickBy_48 : decode cX6_tickBy 48 = .ok (.ldc 201, 2) := by decide +kernel
theorem dX6_tickBy_50 : decode cX6_tickBy 50 = .ok (.fmul, 1) := by decide +kernel
theorem dX6_tickBy_51 : decode cX6_tickBy 51 = .ok (.fadd, 1) := by decide +kernel
theorem dX6_tickBy_52 : decode cX6_tickBy 52 = .ok (.fastore, 1) := by decide +kernel
theorem dX6_tickBy_53 : decode cX6_tickBy 53 = .ok (.aload_n 1, 1) := by decide +kernel
theorem dX6_tickBy_54 : decode cX6_tickBy 54 = .ok (.iconst 4, 1) := by decide +kernel
theorem dX6_tickBy_55 : decode cX6_tickBy 55 = .ok (.dup2, 1) := by decide +kernel
theorem dX6_tickBy_56 : decode cX6_tickBy 56 = .ok (.iaload, 1) := by decide +kernel
theorem dX6_tickBy_57 : decode cX6_tickBy 57 = .ok (.iconst 1, 1) := by decide +kernel
theorem dX6_tickBy_58 : decode cX6_tickBy 58 = .ok (.iadd, 1) := by decide +kernel
theorem dX6_tickBy_59 : decode cX6_tickBy 59 = .ok (.iastore, 1) := by decide +kernel
theorem dX6_tickBy_60 : decode cX6_tickBy 60 = .ok (.aload_n 1, 1) := by decide +kernel
theorem dX6_tickBy_61 : decode cX6_tickBy 61 = .ok (.iconst 0, 1) := by decide +kernel
theorem dX6_tickBy_62 : decode cX6_tickBy 62 = .ok (.iaload, 1) := by decide +kernel
theorem dX6_tickBy_63 : decode cX6_tickBy 63 = .ok (.invokestatic 202, 3) := by decide +kernel
theorem dX6_tickBy_66 : decode cX6_tickBy 66 = .ok (.iconst 2, 1) := by decide +kernel
theorem dX6_tickBy_67 : decode cX6_tickBy 67 = .ok (.if_icmp .ge 9, 3) := by decide +kernel
theorem dX6_tickBy_70 : decode cX6_tickBy 70 = .ok (.aload_n 0, 1) := by decide +kernel
theorem dX6_tickBy_71 : decode cX6_tickBy 71 = .ok (.aload_n 1, 1) := by decide +kernel
theorem dX6_tickBy_72 : decode cX6_tickBy 72 = .ok (.aload_n 2, 1) := by decide +kernel
theorem dX6_tickBy_73 : decode cX6_tickBy 73 = .ok (.invokevirtual 205, 3) := by decide +kernel
theorem dX6_tickBy_76 : decode cX6_tickBy 76 = .ok (.aload_n 1, 1) := by decide +kernel
theorem dX6_tickBy_77 : decode cX6_tickBy 77 = .ok (.bipush 6, 2) := by decide +kernel
theorem dX6_tickBy_79 : decode cX6_tickBy 79 = .ok (.dup2, 1) := by decide +kernel
theorem dX6_tickBy_80 : decode cX6_tickBy 80 = .ok (.iaload, 1) := by decide +kernel
theorem dX6_tickBy_81 : decode cX6_tickBy 81 = .ok (.iconst 1, 1) := by decide +kernel
theorem dX6_tickBy_82 : decode cX6_tickBy 82 = .ok (.iadd, 1) := by decide +kernel
theorem dX6_tickBy_83 : decode cX6_tickBy 83 = .ok (.iastore, 1) := by decide +kernel
theorem dX6_tickBy_84 : decode cX6_tickBy 84 = .ok (.return_, 1) := by decide +kernel
set_option maxRecDepth 20000 in
theorem ggX6_tickBy_X6_ones : GoodIn wsX6_tickBy wsX6_ones := goodIn_r _ [56] rfl (by decide +kernel)
set_option maxRecDepth 20000 in
theorem gX6_tickBy_X6_ones : GoodIn wsX6_tickBy (va_wsS RX6 202 yX6_ones wsX6_ones) := goodIn_app (goodIn_of _ (by decide +kernel)) ggX6_tickBy_X6_ones
set_option maxRecDepth 20000 in
theorem ggX6_tickBy_X6_coil : GoodIn wsX6_tickBy wsX6_coil := goodIn_r _ [60, 61, 62, 63, 64, 65, 27, 66, 67, 68, 5, 69, 42, 70, 71, 72, 28, 29, 30, 31, 32, 33, 38, 39, 40, 41, 73, 74, 75, 76, 77, 78, 79, 80, 81, 82, 83, 84, 85, 86, 87, 88, 89, 90, 91, 92, 93, 94, 95, 96, 97, 98, 99, 100, 101, 102, 103, 104, 105, 106, 107, 108] rfl (by decide +kernel)
set_option maxRecDepth 20000 in
theorem gX6_tickBy_X6_coil : GoodIn wsX6_tickBy (wsV RX6 205 RX6 yX6_coil wsX6_coil) := goodIn_app (goodIn_of _ (by decide +kernel)) ggX6_tickBy_X6_coil
set_option maxRecDepth 20000 in
theorem ggX6_tickBy_X6_layWant : GoodIn wsX6_tickBy wsX6_layWant := goodIn_r _ [6, 7, 8, 73, 74, 75, 76, 77, 78, 79, 80, 81, 82, 83, 84, 85, 86, 87, 88, 89, 90, 91, 92, 93, 94, 95, 96, 97, 98, 99, 100, 101, 102, 103, 104, 105, 106, 107, 108] rfl (by decide +kernel)
set_option maxRecDepth 20000 in
theorem gX6_tickBy_X6_layWant : GoodIn wsX6_tickBy (wsV RX6 194 RX6 yX6_layWant wsX6_layWant) := goodIn_app (goodIn_of _ (by decide +kernel)) ggX6_tickBy_X6_layWant
set_option maxRecDepth 20000 in
theorem ggX6_tickBy_X6_turnWheels : GoodIn wsX6_tickBy wsX6_turnWheels := goodIn_r _ [12, 13, 14, 15, 16, 17, 5, 18, 19, 20, 21, 22, 23, 24, 25, 26, 27, 28, 29, 30, 31, 32, 33, 34, 35, 36, 37, 7, 38, 39, 40, 41, 42, 43, 44, 45, 46, 47, 48, 49, 50, 51, 52, 53, 73, 74, 75, 76, 77, 78, 79, 80, 81, 82, 83, 84, 85, 86, 87, 88, 89, 90, 91, 92, 93, 94, 95, 96, 97, 98, 99, 100, 101, 102, 103, 104, 105, 106, 107, 108] rfl (by decide +kernel)
set_option maxRecDepth 20000 in
theorem gX6_tickBy_X6_turnWheels : GoodIn wsX6_tickBy (wsV RX6 198 RX6 yX6_turnWheels wsX6_turnWheels) := goodIn_app (goodIn_of _ (by decide +kernel)) ggX6_tickBy_X6_turnWheels
set_option maxRecDepth 100000 in
set_option maxHeartbeats 4000000 in
theorem m_X6_tickBy {l : Launch} {D : va_G} {E : Nat → ClassId} {T : Nat → Nat} (o : Nat) (xa : Nat) (fa : Nat) (wa : Nat) (la : Nat) (ta : Nat) (ma : Nat) (sa : Nat) (pp : Nat) (ff : Nat) (nw : Nat) (nf : Nat) (B : Nat) (u0 : Value) (u1 : Value) (u2 : Value) (u7 : Value) (u8 : Value) (u9 : Value) (u10 : Value) (u11 : Value) (u12 : Value) (u13 : Value) (u14 : Value) (u15 : Value) (u16 : Value) (u17 : Value) (u18 : Value) (u19 : Value) (u20 : Value) (u21 : Value) (u22 : Value) (u23 : Value) (u24 : Value) (u25 : Value) (u26 : Value) (u34 : Value) (fl : Nat → Int32) (S : TS) (K : RJ) (x : Int32) (y : Int32) (z : Int32) (hok : OkS B S) (hB : B < 2 ^ 31) (hnw : nw ≤ 6) (hnf : nf ≤ 6) : g_M l D E T yX6_tickBy wsX6_tickBy 5 123 [.ref o, .ref pp, .ref ff, .int x, .int y, .int z] [(o, .inr (6, [u0, u1, u2, .ref xa, .int (nI nw), .int (nI nf), .ref fa, u7, u8, u9, u10, u11, u12, u13, u14, u15, u16, u17, u18, u19, u20, u21, u22, u23, u24, u25, u26, .ref wa, .ref la, .ref ta, .int (rS K), .int (rN K), .float (rH K), .ref ma, u34, .ref sa])), (xa, .inl (E 0, 12, .inl (g_tv 0))), (fa, .inl (E 0, 18, .inl fl)), (wa, .inl (E 0, 3, .inl (rW K))), (la, .inl (E 1, 4, .inr (.inr (.inl (rP K))))), (ta, .inl (E 1, 4, .inr (.inr (.inl (rT K))))), (ma, .inl (E 1, 3, .inr (.inr (.inl (rM K))))), (sa, .inl (E 0, 9, .inl (g_tv 1))), (pp, .inl (E 0, 29, .inl (pgF S))), (ff, .inl (E 1, 5, .inr (.inr (.inl (fl5 S)))))] [(o, .inr (6, [u0, u1, u2, .ref xa, .int (nI nw), .int (nI nf), .ref fa, u7, u8, u9, u10, u11, u12, u13, u14, u15, u16, u17, u18, u19, u20, u21, u22, u23, u24, u25, u26, .ref wa, .ref la, .ref ta, .int (rS (rjF nw (x3F x y z) S K)), .int (rN (rjF nw (x3F x y z) S K)), .float (rH (rjF nw (x3F x y z) S K)), .ref ma, u34, .ref sa])), (xa, .inl (E 0, 12, .inl (g_tv 0))), (fa, .inl (E 0, 18, .inl fl)), (wa, .inl (E 0, 3, .inl (rW (rjF nw (x3F x y z) S K)))), (la, .inl (E 1, 4, .inr (.inr (.inl (rP (rjF nw (x3F x y z) S K)))))), (ta, .inl (E 1, 4, .inr (.inr (.inl (rT (rjF nw (x3F x y z) S K)))))), (ma, .inl (E 1, 3, .inr (.inr (.inl (rM (rjF nw (x3F x y z) S K)))))), (sa, .inl (E 0, 9, .inl (g_tv 1))), (pp, .inl (E 0, 29, .inl (pgF (tkF nw nf fl (x3F x y z) S)))), (ff, .inl (E 1, 5, .inr (.inr (.inl (fl5 (tkF nw nf fl (x3F x y z) S))))))] none := by
  have hk31 : sK S < 2 ^ 31 := Nat.lt_of_le_of_lt hok.k hB
  refine g_M.of (cc := cX6_tickBy) (nL := 7) (ret := none) (own := RX6) (lv := [(0, .ref o), (1, .ref pp), (2, .ref ff), (3, .int x), (4, .int y), (5, .int z)]) (by decide) rfl rfl (Nat.le_of_ble_eq_true rfl) rfl ?_
  intro p e R s m args below meth c A Q H locs ls hR hQ hc hr hw hl
  have hx := hc.1
  have hb := hc.2.1
  have hts := hc.2.2.2.1
  have hown := hc.2.2.2.2.1
  refine lv_aload_n hx hb dX6_tickBy_0 rfl (lv_at hl 1 rfl) ?_
  refine lv_iconst (v := 1) hx hb dX6_tickBy_1 (by decide) ?_
  refine g_ild hc hw 8 1 rfl rfl (by omega) (by decide) dX6_tickBy_2 ?_
  refine W.eq (congrArg (fun z => F0 m 3 ls (.int z :: [])) (show ((pgF S) 1 : Int32) = sM S from rfl)) ?_
  refine lv_iconst (v := 1) hx hb dX6_tickBy_3 (by decide) ?_
  have J60 : ∀ (H : Heap) (locs : List Loc) (ls : Array Slot), g_W D A s [(o, .inr (6, [u0, u1, u2, .ref xa, .int (nI nw), .int (nI nf), .ref fa, u7, u8, u9, u10, u11, u12, u13, u14, u15, u16, u17, u18, u19, u20, u21, u22, u23, u24, u25, u26, .ref wa, .ref la, .ref ta, .int (rS (rj1 nw (x3F x y z) S K)), .int (rN (rj1 nw (x3F x y z) S K)), .float (rH (rj1 nw (x3F x y z) S K)), .ref ma, u34, .ref sa])), (xa, .inl (E 0, 12, .inl (g_tv 0))), (fa, .inl (E 0, 18, .inl fl)), (wa, .inl (E 0, 3, .inl (rW (rj1 nw (x3F x y z) S K)))), (la, .inl (E 1, 4, .inr (.inr (.inl (rP (rj1 nw (x3F x y z) S K)))))), (ta, .inl (E 1, 4, .inr (.inr (.inl (rT (rj1 nw (x3F x y z) S K)))))), (ma, .inl (E 1, 3, .inr (.inr (.inl (rM (rj1 nw (x3F x y z) S K)))))), (sa, .inl (E 0, 9, .inl (g_tv 1))), (pp, .inl (E 0, 29, .inl (pgF (t1F nw (x3F x y z) S)))), (ff, .inl (E 1, 5, .inr (.inr (.inl (fl5 (t1F nw (x3F x y z) S))))))] H locs → lv_has ls 7 [(0, .ref o), (1, .ref pp), (2, .ref ff), (3, .int x), (4, .int y), (5, .int z)] → W p l e R s m args below meth c H locs 0 0 Q (F0 m 60 ls []) := by
    intro   H locs ls hw hl
    refine lv_aload_n hx hb dX6_tickBy_60 rfl (lv_at hl 1 rfl) ?_
    refine lv_iconst (v := 0) hx hb dX6_tickBy_61 (by decide) ?_
    refine g_ild hc hw 8 0 rfl rfl (by omega) (by decide) dX6_tickBy_62 ?_
    refine W.eq (congrArg (fun z => F0 m 63 ls (.int z :: [])) (show ((pgF (t1F nw (x3F x y z) S)) 0 : Int32) = nI (sD (t1F nw (x3F x y z) S)) from rfl)) ?_
    refine g_cS (As := [.int (nI (sD (t1F nw (x3F x y z) S)))]) (n := 1) (rest := []) (wc := []) (w1 := []) (bytes := cX6_ones) (maxL := 3) (ret := (some .int)) hc hw hl.1 (m_X6_ones (l := l) (D := D) (E := E) (T := T) (sD (t1F nw (x3F x y z) S)) ((hok.t1 nw (x3F x y z)).d)) gX6_tickBy_X6_ones rfl (by decide +kernel) (by rw [hR]; exact ⟨Nat.le_of_ble_eq_true rfl, Nat.le_of_ble_eq_true rfl⟩) [] (by decide) rfl [] rfl rfl rfl rfl (Nat.le_of_ble_eq_true rfl) dX6_tickBy_63 ⟨Nat.zero_le _, Nat.zero_le _⟩ (fun H locs hw => ?_)
    have hw : g_W D A s [(o, .inr (6, [u0, u1, u2, .ref xa, .int (nI nw), .int (nI nf), .ref fa, u7, u8, u9, u10, u11, u12, u13, u14, u15, u16, u17, u18, u19, u20, u21, u22, u23, u24, u25, u26, .ref wa, .ref la, .ref ta, .int (rS (rj1 nw (x3F x y z) S K)), .int (rN (rj1 nw (x3F x y z) S K)), .float (rH (rj1 nw (x3F x y z) S K)), .ref ma, u34, .ref sa])), (xa, .inl (E 0, 12, .inl (g_tv 0))), (fa, .inl (E 0, 18, .inl fl)), (wa, .inl (E 0, 3, .inl (rW (rj1 nw (x3F x y z) S K)))), (la, .inl (E 1, 4, .inr (.inr (.inl (rP (rj1 nw (x3F x y z) S K)))))), (ta, .inl (E 1, 4, .inr (.inr (.inl (rT (rj1 nw (x3F x y z) S K)))))), (ma, .inl (E 1, 3, .inr (.inr (.inl (rM (rj1 nw (x3F x y z) S K)))))), (sa, .inl (E 0, 9, .inl (g_tv 1))), (pp, .inl (E 0, 29, .inl (pgF (t1F nw (x3F x y z) S)))), (ff, .inl (E 1, 5, .inr (.inr (.inl (fl5 (t1F nw (x3F x y z) S))))))] H locs := hw
    refine lv_iconst (v := 2) hx hb dX6_tickBy_66 (by decide) ?_
    refine lv_icmp_ge (tgt := 76) hx hb dX6_tickBy_67 (by decide) (fun c_67 => ?_) (fun c_67 => ?_)
    · skip
      have h67 : 1 < pcn (sD (t1F nw (x3F x y z) S)) := g_geT2 (pcn_lt _ (hok.t1 nw (x3F x y z)).d) c_67
      refine lv_aload_n hx hb dX6_tickBy_76 rfl (lv_at hl 1 rfl) ?_
      refine lv_bipush (v := 6) hx hb dX6_tickBy_77 (by decide) ?_
      refine lv_dup2_11 hx hb dX6_tickBy_79 rfl rfl ?_
      refine g_ild hc hw 8 6 rfl rfl (by omega) (by decide) dX6_tickBy_80 ?_
      refine W.eq (congrArg (fun z => F0 m 81 ls (.int z :: [.int 6, .ref pp])) (show ((pgF (t1F nw (x3F x y z) S)) 6 : Int32) = nI (sK (t1F nw (x3F x y z) S)) from rfl)) ?_
      refine lv_iconst (v := 1) hx hb dX6_tickBy_81 (by decide) ?_
      refine lv_iadd hx hb dX6_tickBy_82 ?_
      refine W.eq (congrArg (fun z => F0 m 83 ls (.int z :: [.int 6, .ref pp])) (show ((nI (sK (t1F nw (x3F x y z) S))) + 1 : Int32) = nI (sK (t1F nw (x3F x y z) S) + 1) from n_add rfl rfl)) ?_
      refine g_ist hc hw 8 6 rfl rfl (by omega) (by decide) dX6_tickBy_83 (fun H locs hw => ?_)
      have hw : g_W D A s [(o, .inr (6, [u0, u1, u2, .ref xa, .int (nI nw), .int (nI nf), .ref fa, u7, u8, u9, u10, u11, u12, u13, u14, u15, u16, u17, u18, u19, u20, u21, u22, u23, u24, u25, u26, .ref wa, .ref la, .ref ta, .int (rS (rj1 nw (x3F x y z) S K)), .int (rN (rj1 nw (x3F x y z) S K)), .float (rH (rj1 nw (x3F x y z) S K)), .ref ma, u34, .ref sa])), (xa, .inl (E 0, 12, .inl (g_tv 0))), (fa, .inl (E 0, 18, .inl fl)), (wa, .inl (E 0, 3, .inl (rW (rj1 nw (x3F x y z) S K)))), (la, .inl (E 1, 4, .inr (.inr (.inl (rP (rj1 nw (x3F x y z) S K)))))), (ta, .inl (E 1, 4, .inr (.inr (.inl (rT (rj1 nw (x3F x y z) S K)))))), (ma, .inl (E 1, 3, .inr (.inr (.inl (rM (rj1 nw (x3F x y z) S K)))))), (sa, .inl (E 0, 9, .inl (g_tv 1))), (pp, .inl (E 0, 29, .inl (upd (pgF (t1F nw (x3F x y z) S)) 6 (nI (sK (t1F nw (x3F x y z) S) + 1))))), (ff, .inl (E 1, 5, .inr (.inr (.inl (fl5 (t1F nw (x3F x y z) S))))))] H locs := hw
      rw [pg_K] at hw
      have hw : g_W D A s [(o, .inr (6, [u0, u1, u2, .ref xa, .int (nI nw), .int (nI nf), .ref fa, u7, u8, u9, u10, u11, u12, u13, u14, u15, u16, u17, u18, u19, u20, u21, u22, u23, u24, u25, u26, .ref wa, .ref la, .ref ta, .int (rS (rj1 nw (x3F x y z) S K)), .int (rN (rj1 nw (x3F x y z) S K)), .float (rH (rj1 nw (x3F x y z) S K)), .ref ma, u34, .ref sa])), (xa, .inl (E 0, 12, .inl (g_tv 0))), (fa, .inl (E 0, 18, .inl fl)), (wa, .inl (E 0, 3, .inl (rW (rj1 nw (x3F x y z) S K)))), (la, .inl (E 1, 4, .inr (.inr (.inl (rP (rj1 nw (x3F x y z) S K)))))), (ta, .inl (E 1, 4, .inr (.inr (.inl (rT (rj1 nw (x3F x y z) S K)))))), (ma, .inl (E 1, 3, .inr (.inr (.inl (rM (rj1 nw (x3F x y z) S K)))))), (sa, .inl (E 0, 9, .inl (g_tv 1))), (pp, .inl (E 0, 29, .inl (pgF (wK (t1F nw (x3F x y z) S) (sK (t1F nw (x3F x y z) S) + 1))))), (ff, .inl (E 1, 5, .inr (.inr (.inl (fl5 (t1F nw (x3F x y z) S))))))] H locs := hw
      exact g_vret hQ hc hw hr rfl (by rw [show tkF nw nf fl (x3F x y z) S = t3F (t1F nw (x3F x y z) S) from congrArg t3F (if_pos h67), show rjF nw (x3F x y z) S K = rj1 nw (x3F x y z) S K from if_pos h67]; rfl) dX6_tickBy_84
    · skip
      have h67 : ¬ 1 < pcn (sD (t1F nw (x3F x y z) S)) := g_geF2 (pcn_lt _ (hok.t1 nw (x3F x y z)).d) c_67
      refine lv_aload_n hx hb dX6_tickBy_70 rfl (lv_at hl 0 rfl) ?_
      refine lv_aload_n hx hb dX6_tickBy_71 rfl (lv_at hl 1 rfl) ?_
      refine lv_aload_n hx hb dX6_tickBy_72 rfl (lv_at hl 2 rfl) ?_
      refine g_cV (As := [.ref pp, .ref ff]) (n := 2) (rest := []) (wc := [(o, .inr (6, [u0, u1, u2, .ref xa, .int (nI nw), .int (nI nf), .ref fa, u7, u8, u9, u10, u11, u12, u13, u14, u15, u16, u17, u18, u19, u20, u21, u22, u23, u24, u25, u26, .ref wa, .ref la, .ref ta, .int (rS (rj1 nw (x3F x y z) S K)), .int (rN (rj1 nw (x3F x y z) S K)), .float (rH (rj1 nw (x3F x y z) S K)), .ref ma, u34, .ref sa])), (xa, .inl (E 0, 12, .inl (g_tv 0))), (fa, .inl (E 0, 18, .inl fl)), (ma, .inl (E 1, 3, .inr (.inr (.inl (rM (rj1 nw (x3F x y z) S K)))))), (pp, .inl (E 0, 29, .inl (pgF (t1F nw (x3F x y z) S)))), (ff, .inl (E 1, 5, .inr (.inr (.inl (fl5 (t1F nw (x3F x y z) S))))))]) (w1 := [(o, .inr (6, [u0, u1, u2, .ref xa, .int (nI nw), .int (nI nf), .ref fa, u7, u8, u9, u10, u11, u12, u13, u14, u15, u16, u17, u18, u19, u20, u21, u22, u23, u24, u25, u26, .ref wa, .ref la, .ref ta, .int (rS (rj1 nw (x3F x y z) S K)), .int (rN (rj1 nw (x3F x y z) S K)), .float (rH (rj1 nw (x3F x y z) S K)), .ref ma, u34, .ref sa])), (xa, .inl (E 0, 12, .inl (g_tv 0))), (fa, .inl (E 0, 18, .inl fl)), (ma, .inl (E 1, 3, .inr (.inr (.inl (moF (sF (t1F nw (x3F x y z) S))))))), (pp, .inl (E 0, 29, .inl (pgF (t2U nf fl (t1F nw (x3F x y z) S))))), (ff, .inl (E 1, 5, .inr (.inr (.inl (fl5 (t2U nf fl (t1F nw (x3F x y z) S)))))))]) (bytes := cX6_coil) (maxL := 17) (ret := none) hc hw hl.1 (m_X6_coil (l := l) (D := D) (E := E) (T := T) o xa fa ma pp ff nf B u0 u1 u2 (.int (nI nw)) u7 u8 u9 u10 u11 u12 u13 u14 u15 u16 u17 u18 u19 u20 u21 u22 u23 u24 u25 u26 (.ref wa) (.ref la) (.ref ta) (.int (rS (rj1 nw (x3F x y z) S K))) (.int (rN (rj1 nw (x3F x y z) S K))) (.float (rH (rj1 nw (x3F x y z) S K))) u34 (.ref sa) fl (t1F nw (x3F x y z) S) (rM (rj1 nw (x3F x y z) S K)) (hok.t1 nw (x3F x y z)) (Nat.not_lt.mp h67) hnf hB) gX6_tickBy_X6_coil rfl (by decide +kernel) (by rw [hR]; exact ⟨Nat.le_of_ble_eq_true rfl, Nat.le_of_ble_eq_true rfl⟩) [0, 1, 2, 6, 8, 9] 0 6 rfl rfl (by decide) rfl [o, xa, fa, ma, pp, ff] rfl rfl rfl rfl (Nat.le_of_ble_eq_true rfl) dX6_tickBy_73 ⟨Nat.zero_le _, Nat.zero_le _⟩ (fun H locs hw => ?_)
      have hw : g_W D A s [(o, .inr (6, [u0, u1, u2, .ref xa, .int (nI nw), .int (nI nf), .ref fa, u7, u8, u9, u10, u11, u12, u13, u14, u15, u16, u17, u18, u19, u20, u21, u22, u23, u24, u25, u26, .ref wa, .ref la, .ref ta, .int (rS (rj1 nw (x3F x y z) S K)), .int (rN (rj1 nw (x3F x y z) S K)), .float (rH (rj1 nw (x3F x y z) S K)), .ref ma, u34, .ref sa])), (xa, .inl (E 0, 12, .inl (g_tv 0))), (fa, .inl (E 0, 18, .inl fl)), (wa, .inl (E 0, 3, .inl (rW (rj1 nw (x3F x y z) S K)))), (la, .inl (E 1, 4, .inr (.inr (.inl (rP (rj1 nw (x3F x y z) S K)))))), (ta, .inl (E 1, 4, .inr (.inr (.inl (rT (rj1 nw (x3F x y z) S K)))))), (ma, .inl (E 1, 3, .inr (.inr (.inl (moF (sF (t1F nw (x3F x y z) S))))))), (sa, .inl (E 0, 9, .inl (g_tv 1))), (pp, .inl (E 0, 29, .inl (pgF (t2U nf fl (t1F nw (x3F x y z) S))))), (ff, .inl (E 1, 5, .inr (.inr (.inl (fl5 (t2U nf fl (t1F nw (x3F x y z) S)))))))] H locs := hw
      refine lv_aload_n hx hb dX6_tickBy_76 rfl (lv_at hl 1 rfl) ?_
      refine lv_bipush (v := 6) hx hb dX6_tickBy_77 (by decide) ?_
      refine lv_dup2_11 hx hb dX6_tickBy_79 rfl rfl ?_
      refine g_ild hc hw 8 6 rfl rfl (by omega) (by decide) dX6_tickBy_80 ?_
      refine W.eq (congrArg (fun z => F0 m 81 ls (.int z :: [.int 6, .ref pp])) (show ((pgF (t2U nf fl (t1F nw (x3F x y z) S))) 6 : Int32) = nI (sK (t2U nf fl (t1F nw (x3F x y z) S))) from rfl)) ?_
      refine lv_iconst (v := 1) hx hb dX6_tickBy_81 (by decide) ?_
      refine lv_iadd hx hb dX6_tickBy_82 ?_
      refine W.eq (congrArg (fun z => F0 m 83 ls (.int z :: [.int 6, .ref pp])) (show ((nI (sK (t2U nf fl (t1F nw (x3F x y z) S)))) + 1 : Int32) = nI (sK (t2U nf fl (t1F nw (x3F x y z) S)) + 1) from n_add rfl rfl)) ?_
      refine g_ist hc hw 8 6 rfl rfl (by omega) (by decide) dX6_tickBy_83 (fun H locs hw => ?_)
      have hw : g_W D A s [(o, .inr (6, [u0, u1, u2, .ref xa, .int (nI nw), .int (nI nf), .ref fa, u7, u8, u9, u10, u11, u12, u13, u14, u15, u16, u17, u18, u19, u20, u21, u22, u23, u24, u25, u26, .ref wa, .ref la, .ref ta, .int (rS (rj1 nw (x3F x y z) S K)), .int (rN (rj1 nw (x3F x y z) S K)), .float (rH (rj1 nw (x3F x y z) S K)), .ref ma, u34, .ref sa])), (xa, .inl (E 0, 12, .inl (g_tv 0))), (fa, .inl (E 0, 18, .inl fl)), (wa, .inl (E 0, 3, .inl (rW (rj1 nw (x3F x y z) S K)))), (la, .inl (E 1, 4, .inr (.inr (.inl (rP (rj1 nw (x3F x y z) S K)))))), (ta, .inl (E 1, 4, .inr (.inr (.inl (rT (rj1 nw (x3F x y z) S K)))))), (ma, .inl (E 1, 3, .inr (.inr (.inl (moF (sF (t1F nw (x3F x y z) S))))))), (sa, .inl (E 0, 9, .inl (g_tv 1))), (pp, .inl (E 0, 29, .inl (upd (pgF (t2U nf fl (t1F nw (x3F x y z) S))) 6 (nI (sK (t2U nf fl (t1F nw (x3F x y z) S)) + 1))))), (ff, .inl (E 1, 5, .inr (.inr (.inl (fl5 (t2U nf fl (t1F nw (x3F x y z) S)))))))] H locs := hw
      rw [pg_K] at hw
      have hw : g_W D A s [(o, .inr (6, [u0, u1, u2, .ref xa, .int (nI nw), .int (nI nf), .ref fa, u7, u8, u9, u10, u11, u12, u13, u14, u15, u16, u17, u18, u19, u20, u21, u22, u23, u24, u25, u26, .ref wa, .ref la, .ref ta, .int (rS (rj1 nw (x3F x y z) S K)), .int (rN (rj1 nw (x3F x y z) S K)), .float (rH (rj1 nw (x3F x y z) S K)), .ref ma, u34, .ref sa])), (xa, .inl (E 0, 12, .inl (g_tv 0))), (fa, .inl (E 0, 18, .inl fl)), (wa, .inl (E 0, 3, .inl (rW (rj1 nw (x3F x y z) S K)))), (la, .inl (E 1, 4, .inr (.inr (.inl (rP (rj1 nw (x3F x y z) S K)))))), (ta, .inl (E 1, 4, .inr (.inr (.inl (rT (rj1 nw (x3F x y z) S K)))))), (ma, .inl (E 1, 3, .inr (.inr (.inl (moF (sF (t1F nw (x3F x y z) S))))))), (sa, .inl (E 0, 9, .inl (g_tv 1))), (pp, .inl (E 0, 29, .inl (pgF (wK (t2U nf fl (t1F nw (x3F x y z) S)) (sK (t2U nf fl (t1F nw (x3F x y z) S)) + 1))))), (ff, .inl (E 1, 5, .inr (.inr (.inl (fl5 (t2U nf fl (t1F nw (x3F x y z) S)))))))] H locs := hw
      exact g_vret hQ hc hw hr rfl (by rw [show tkF nw nf fl (x3F x y z) S = t3F (t2U nf fl (t1F nw (x3F x y z) S)) from congrArg t3F (if_neg h67), show rjF nw (x3F x y z) S K = (rW (rj1 nw (x3F x y z) S K), rP (rj1 nw (x3F x y z) S K), rT (rj1 nw (x3F x y z) S K), rS (rj1 nw (x3F x y z) S K), rN (rj1 nw (x3F x y z) S K), rH (rj1 nw (x3F x y z) S K), moF (sF (t1F nw (x3F x y z) S))) from if_neg h67]; rfl) dX6_tickBy_84
  refine lv_icmp_ne (tgt := 11) hx hb dX6_tickBy_4 (by decide) (fun c_4 => ?_) (fun c_4 => ?_)
  · skip
    have hp : pcn (sD S) ≤ 1 := hok.2.2.1 (hok.2.1.resolve_right c_4)
    refine lv_iconst (v := 0) hx hb dX6_tickBy_11 (by decide) ?_
    refine lv_istore (lv' := [(6, .int 0), (0, .ref o), (1, .ref pp), (2, .ref ff), (3, .int x), (4, .int y), (5, .int z)]) hx hb dX6_tickBy_12 hl (by decide) rfl (fun ls hl => ?_)
    refine lv_iload hx hb dX6_tickBy_14 (lv_at hl 0 rfl) ?_
    refine lv_if_ne (tgt := 38) hx hb dX6_tickBy_16 (by decide) (fun c_16 => absurd c_16 (by decide)) (fun c_16 => ?_)
    refine lv_aload_n hx hb dX6_tickBy_19 rfl (lv_at hl 1 rfl) ?_
    refine lv_aload_n hx hb dX6_tickBy_20 rfl (lv_at hl 2 rfl) ?_
    refine lv_iload_n hx hb dX6_tickBy_21 rfl (lv_at hl 4 rfl) ?_
    refine lv_iload hx hb dX6_tickBy_22 (lv_at hl 5 rfl) ?_
    refine lv_iload hx hb dX6_tickBy_24 (lv_at hl 6 rfl) ?_
    refine g_cV (As := [.ref pp, .int x, .int y, .int z]) (n := 4) (rest := []) (wc := [(o, .inr (6, [u0, u1, u2, .ref xa, .int (nI nw), .int (nI nf), .ref fa, u7, u8, u9, u10, u11, u12, u13, u14, u15, u16, u17, u18, u19, u20, u21, u22, u23, u24, u25, u26, .ref wa, .ref la, .ref ta, .int (rS K), .int (rN K), .float (rH K), .ref ma, u34, .ref sa])), (pp, .inl (E 0, 29, .inl (pgF S))), (wa, .inl (E 0, 3, .inl (rW K)))]) (w1 := [(o, .inr (6, [u0, u1, u2, .ref xa, .int (nI nw), .int (nI nf), .ref fa, u7, u8, u9, u10, u11, u12, u13, u14, u15, u16, u17, u18, u19, u20, u21, u22, u23, u24, u25, u26, .ref wa, .ref la, .ref ta, .int (rS K), .int (rN K), .float (rH K), .ref ma, u34, .ref sa])), (pp, .inl (E 0, 29, .inl (pgF S))), (wa, .inl (E 0, 3, .inl (wnF nw (x3F x y z) S)))]) (bytes := cX6_layWant) (maxL := 6) (ret := none) hc hw hl.1 (m_X6_layWant (l := l) (D := D) (E := E) (T := T) o pp nw wa u0 u1 u2 (.ref xa) (.int (nI nf)) (.ref fa) u7 u8 u9 u10 u11 u12 u13 u14 u15 u16 u17 u18 u19 u20 u21 u22 u23 u24 u25 u26 (.ref la) (.ref ta) (.int (rS K)) (.int (rN K)) (.float (rH K)) (.ref ma) u34 (.ref sa) S (rW K) x y z hnw hk31) gX6_tickBy_X6_layWant rfl (by decide +kernel) (by rw [hR]; exact ⟨Nat.le_of_ble_eq_true rfl, Nat.le_of_ble_eq_true rfl⟩) [0, 8, 3] 0 6 rfl rfl (by decide) rfl [o, pp, wa] rfl rfl rfl rfl (Nat.le_of_ble_eq_true rfl) dX6_tickBy_26 ⟨Nat.zero_le _, Nat.zero_le _⟩ (fun H locs hw => ?_)
    have hw : g_W D A s [(o, .inr (6, [u0, u1, u2, .ref xa, .int (nI nw), .int (nI nf), .ref fa, u7, u8, u9, u10, u11, u12, u13, u14, u15, u16, u17, u18, u19, u20, u21, u22, u23, u24, u25, u26, .ref wa, .ref la, .ref ta, .int (rS K), .int (rN K), .float (rH K), .ref ma, u34, .ref sa])), (xa, .inl (E 0, 12, .inl (g_tv 0))), (fa, .inl (E 0, 18, .inl fl)), (wa, .inl (E 0, 3, .inl (wnF nw (x3F x y z) S))), (la, .inl (E 1, 4, .inr (.inr (.inl (rP K))))), (ta, .inl (E 1, 4, .inr (.inr (.inl (rT K))))), (ma, .inl (E 1, 3, .inr (.inr (.inl (rM K))))), (sa, .inl (E 0, 9, .inl (g_tv 1))), (pp, .inl (E 0, 29, .inl (pgF S))), (ff, .inl (E 1, 5, .inr (.inr (.inl (fl5 S)))))] H locs := hw
    refine lv_aload_n hx hb dX6_tickBy_29 rfl (lv_at hl 1 rfl) ?_
    refine lv_aload_n hx hb dX6_tickBy_30 rfl (lv_at hl 2 rfl) ?_
    refine lv_aload_n hx hb dX6_tickBy_31 rfl (lv_at hl 3 rfl) ?_
    refine g_cV (As := [.ref pp, .ref ff]) (n := 2) (rest := []) (wc := [(o, .inr (6, [u0, u1, u2, .ref xa, .int (nI nw), .int (nI nf), .ref fa, u7, u8, u9, u10, u11, u12, u13, u14, u15, u16, u17, u18, u19, u20, u21, u22, u23, u24, u25, u26, .ref wa, .ref la, .ref ta, .int (rS K), .int (rN K), .float (rH K), .ref ma, u34, .ref sa])), (xa, .inl (E 0, 12, .inl (g_tv 0))), (wa, .inl (E 0, 3, .inl (wnF nw (x3F x y z) S))), (la, .inl (E 1, 4, .inr (.inr (.inl (rP K))))), (ta, .inl (E 1, 4, .inr (.inr (.inl (rT K))))), (sa, .inl (E 0, 9, .inl (g_tv 1))), (pp, .inl (E 0, 29, .inl (pgF S))), (ff, .inl (E 1, 5, .inr (.inr (.inl (fl5 S)))))]) (w1 := [(o, .inr (6, [u0, u1, u2, .ref xa, .int (nI nw), .int (nI nf), .ref fa, u7, u8, u9, u10, u11, u12, u13, u14, u15, u16, u17, u18, u19, u20, u21, u22, u23, u24, u25, u26, .ref wa, .ref la, .ref ta, .int (cS nw (x3F x y z) S), .int (neF (sD S) (FP.i2f (sT S 1)) (aiF (sF S) (eS nw (x3F x y z) S) (cS nw (x3F x y z) S)) 4), .float (heF (sD S) (aiF (sF S) (eS nw (x3F x y z) S) (cS nw (x3F x y z) S)) 4), .ref ma, u34, .ref sa])), (xa, .inl (E 0, 12, .inl (g_tv 0))), (wa, .inl (E 0, 3, .inl (wnF nw (x3F x y z) S))), (la, .inl (E 1, 4, .inr (.inr (.inl (amP (sD S) (aiF (sF S) (eS nw (x3F x y z) S) (cS nw (x3F x y z) S)) (sF S) 4))))), (ta, .inl (E 1, 4, .inr (.inr (.inl (amP (sD S) (aiF (sF S) (eS nw (x3F x y z) S) (g_tv 1 (lpN (sD S)))) (sF S) 4))))), (sa, .inl (E 0, 9, .inl (g_tv 1))), (pp, .inl (E 0, 29, .inl (pgF (t1W nw (x3F x y z) S)))), (ff, .inl (E 1, 5, .inr (.inr (.inl (fl5 (t1W nw (x3F x y z) S))))))]) (bytes := cX6_turnWheels) (maxL := 4) (ret := none) hc hw hl.1 (m_X6_turnWheels (l := l) (D := D) (E := E) (T := T) o xa wa la ta sa pp ff nw B u0 u1 u2 (.int (nI nw)) (.int (nI nf)) (.ref fa) u7 u8 u9 u10 u11 u12 u13 u14 u15 u16 u17 u18 u19 u20 u21 u22 u23 u24 u25 u26 (.ref ma) u34 (x3F x y z) S (rP K) (rT K) (rS K) (rN K) (rH K) hok hp) gX6_tickBy_X6_turnWheels rfl (by decide +kernel) (by rw [hR]; exact ⟨Nat.le_of_ble_eq_true rfl, Nat.le_of_ble_eq_true rfl⟩) [0, 1, 3, 4, 5, 7, 8, 9] 0 6 rfl rfl (by decide) rfl [o, xa, wa, la, ta, sa, pp, ff] rfl rfl rfl rfl (Nat.le_of_ble_eq_true rfl) dX6_tickBy_32 ⟨Nat.zero_le _, Nat.zero_le _⟩ (fun H locs hw => ?_)
    have hw : g_W D A s [(o, .inr (6, [u0, u1, u2, .ref xa, .int (nI nw), .int (nI nf), .ref fa, u7, u8, u9, u10, u11, u12, u13, u14, u15, u16, u17, u18, u19, u20, u21, u22, u23, u24, u25, u26, .ref wa, .ref la, .ref ta, .int (cS nw (x3F x y z) S), .int (neF (sD S) (FP.i2f (sT S 1)) (aiF (sF S) (eS nw (x3F x y z) S) (cS nw (x3F x y z) S)) 4), .float (heF (sD S) (aiF (sF S) (eS nw (x3F x y z) S) (cS nw (x3F x y z) S)) 4), .ref ma, u34, .ref sa])), (xa, .inl (E 0, 12, .inl (g_tv 0))), (fa, .inl (E 0, 18, .inl fl)), (wa, .inl (E 0, 3, .inl (wnF nw (x3F x y z) S))), (la, .inl (E 1, 4, .inr (.inr (.inl (amP (sD S) (aiF (sF S) (eS nw (x3F x y z) S) (cS nw (x3F x y z) S)) (sF S) 4))))), (ta, .inl (E 1, 4, .inr (.inr (.inl (amP (sD S) (aiF (sF S) (eS nw (x3F x y z) S) (g_tv 1 (lpN (sD S)))) (sF S) 4))))), (ma, .inl (E 1, 3, .inr (.inr (.inl (rM K))))), (sa, .inl (E 0, 9, .inl (g_tv 1))), (pp, .inl (E 0, 29, .inl (pgF (t1W nw (x3F x y z) S)))), (ff, .inl (E 1, 5, .inr (.inr (.inl (fl5 (t1W nw (x3F x y z) S))))))] H locs := hw
    refine lv_goto (tgt := 60) hx hb dX6_tickBy_35 (by decide) ?_
    have hw : g_W D A s [(o, .inr (6, [u0, u1, u2, .ref xa, .int (nI nw), .int (nI nf), .ref fa, u7, u8, u9, u10, u11, u12, u13, u14, u15, u16, u17, u18, u19, u20, u21, u22, u23, u24, u25, u26, .ref wa, .ref la, .ref ta, .int (rS (rj1 nw (x3F x y z) S K)), .int (rN (rj1 nw (x3F x y z) S K)), .float (rH (rj1 nw (x3F x y z) S K)), .ref ma, u34, .ref sa])), (xa, .inl (E 0, 12, .inl (g_tv 0))), (fa, .inl (E 0, 18, .inl fl)), (wa, .inl (E 0, 3, .inl (rW (rj1 nw (x3F x y z) S K)))), (la, .inl (E 1, 4, .inr (.inr (.inl (rP (rj1 nw (x3F x y z) S K)))))), (ta, .inl (E 1, 4, .inr (.inr (.inl (rT (rj1 nw (x3F x y z) S K)))))), (ma, .inl (E 1, 3, .inr (.inr (.inl (rM (rj1 nw (x3F x y z) S K)))))), (sa, .inl (E 0, 9, .inl (g_tv 1))), (pp, .inl (E 0, 29, .inl (pgF (t1F nw (x3F x y z) S)))), (ff, .inl (E 1, 5, .inr (.inr (.inl (fl5 (t1F nw (x3F x y z) S))))))] H locs := by rw [show t1F nw (x3F x y z) S = t1W nw (x3F x y z) S from if_neg c_4, show rj1 nw (x3F x y z) S K = (wnF nw (x3F x y z) S, amP (sD S) (aS nw (x3F x y z) S) (sF S) 4, amP (sD S) (aiF (sF S) (eS nw (x3F x y z) S) (g_tv 1 (lpN (sD S)))) (sF S) 4, cS nw (x3F x y z) S, nS nw (x3F x y z) S, hS nw (x3F x y z) S, rM K) from if_neg c_4]; exact hw
    exact J60   _ _ _ hw (lv_sub hl [1, 2, 3, 4, 5, 6] rfl)
  · skip
    refine lv_iconst (v := 1) hx hb dX6_tickBy_7 (by decide) ?_
    refine lv_goto (tgt := 12) hx hb dX6_tickBy_8 (by decide) ?_
    refine lv_istore (lv' := [(6, .int 1), (0, .ref o), (1, .ref pp), (2, .ref ff), (3, .int x), (4, .int y), (5, .int z)]) hx hb dX6_tickBy_12 hl (by decide) rfl (fun ls hl => ?_)
    refine lv_iload hx hb dX6_tickBy_14 (lv_at hl 0 rfl) ?_
    refine lv_if_ne (tgt := 38) hx hb dX6_tickBy_16 (by decide) (fun c_16 => ?_) (fun c_16 => absurd c_16 (by decide))
    refine lv_aload_n hx hb dX6_tickBy_38 rfl (lv_at hl 3 rfl) ?_
    refine lv_iconst (v := 4) hx hb dX6_tickBy_39 (by decide) ?_
    refine lv_aload_n hx hb dX6_tickBy_40 rfl (lv_at hl 3 rfl) ?_
    refine lv_iconst (v := 4) hx hb dX6_tickBy_41 (by decide) ?_
    refine g_fld hc hw 9 4 rfl rfl (by omega) (by decide) dX6_tickBy_42 ?_
    refine W.eq (congrArg (fun z => F0 m 43 ls (.float z :: [.int 4, .ref ff])) (show ((fl5 S) 4 : UInt32) = sP S from rfl)) ?_
    refine lv_fconst2 hx hb dX6_tickBy_43 ?_
    refine lv_aload_n hx hb dX6_tickBy_44 rfl (lv_at hl 3 rfl) ?_
    refine lv_iconst (v := 4) hx hb dX6_tickBy_45 (by decide) ?_
    refine g_fld hc hw 9 4 rfl rfl (by omega) (by decide) dX6_tickBy_46 ?_
    refine W.eq (congrArg (fun z => F0 m 47 ls (.float z :: [.float FP.fconst2, .float (sP S), .int 4, .ref ff])) (show ((fl5 S) 4 : UInt32) = sP S from rfl)) ?_
    refine lv_fsub hx hb dX6_tickBy_47 (g_nn (g_mgsub (Ka := 129) (Kb := 135) (K := 135) g_mgc2 (fl_mg hok 4 (by omega)) (by decide) (by decide) (by decide)) (by decide)) ?_
    refine lv_ldcf (v := 1048576000) hx hb hown (hts _ (List.mem_of_getElem? (i := 1) rfl)) dX6_tickBy_48 ?_
    refine lv_fmul hx hb dX6_tickBy_50 (g_nn (g_mgmul (Ka := 137) (Kb := 126) (K := 137) (g_mgsub (Ka := 129) (Kb := 135) (K := 135) g_mgc2 (fl_mg hok 4 (by omega)) (by decide) (by decide) (by decide)) (g_mgk (by decide)) (by decide) (by decide)) (by decide)) ?_
    refine lv_fadd hx hb dX6_tickBy_51 (g_nn (g_mgadd (Ka := 135) (Kb := 137) (K := 137) (fl_mg hok 4 (by omega)) (g_mgmul (Ka := 137) (Kb := 126) (K := 137) (g_mgsub (Ka := 129) (Kb := 135) (K := 135) g_mgc2 (fl_mg hok 4 (by omega)) (by decide) (by decide) (by decide)) (g_mgk (by decide)) (by decide) (by decide)) (by decide) (by decide) (by decide)) (by decide)) ?_
    refine g_fst hc hw 9 4 rfl rfl (by omega) (by decide) dX6_tickBy_52 (fun H locs hw => ?_)
    have hw : g_W D A s [(o, .inr (6, [u0, u1, u2, .ref xa, .int (nI nw), .int (nI nf), .ref fa, u7, u8, u9, u10, u11, u12, u13, u14, u15, u16, u17, u18, u19, u20, u21, u22, u23, u24, u25, u26, .ref wa, .ref la, .ref ta, .int (rS K), .int (rN K), .float (rH K), .ref ma, u34, .ref sa])), (xa, .inl (E 0, 12, .inl (g_tv 0))), (fa, .inl (E 0, 18, .inl fl)), (wa, .inl (E 0, 3, .inl (rW K))), (la, .inl (E 1, 4, .inr (.inr (.inl (rP K))))), (ta, .inl (E 1, 4, .inr (.inr (.inl (rT K))))), (ma, .inl (E 1, 3, .inr (.inr (.inl (rM K))))), (sa, .inl (E 0, 9, .inl (g_tv 1))), (pp, .inl (E 0, 29, .inl (pgF S))), (ff, .inl (E 1, 5, .inr (.inr (.inl (vf_upd (fl5 S) 4 (FP.fadd (sP S) (FP.fmul (FP.fsub FP.fconst2 (sP S)) 1048576000)))))))] H locs := hw
    rw [fl_P] at hw
    have hw : g_W D A s [(o, .inr (6, [u0, u1, u2, .ref xa, .int (nI nw), .int (nI nf), .ref fa, u7, u8, u9, u10, u11, u12, u13, u14, u15, u16, u17, u18, u19, u20, u21, u22, u23, u24, u25, u26, .ref wa, .ref la, .ref ta, .int (rS K), .int (rN K), .float (rH K), .ref ma, u34, .ref sa])), (xa, .inl (E 0, 12, .inl (g_tv 0))), (fa, .inl (E 0, 18, .inl fl)), (wa, .inl (E 0, 3, .inl (rW K))), (la, .inl (E 1, 4, .inr (.inr (.inl (rP K))))), (ta, .inl (E 1, 4, .inr (.inr (.inl (rT K))))), (ma, .inl (E 1, 3, .inr (.inr (.inl (rM K))))), (sa, .inl (E 0, 9, .inl (g_tv 1))), (pp, .inl (E 0, 29, .inl (pgF S))), (ff, .inl (E 1, 5, .inr (.inr (.inl (fl5 (wP S (FP.fadd (sP S) (FP.fmul (FP.fsub FP.fconst2 (sP S)) 1048576000))))))))] H locs := hw
    refine lv_aload_n hx hb dX6_tickBy_53 rfl (lv_at hl 2 rfl) ?_
    refine lv_iconst (v := 4) hx hb dX6_tickBy_54 (by decide) ?_
    refine lv_dup2_11 hx hb dX6_tickBy_55 rfl rfl ?_
    refine g_ild hc hw 8 4 rfl rfl (by omega) (by decide) dX6_tickBy_56 ?_
    refine W.eq (congrArg (fun z => F0 m 57 ls (.int z :: [.int 4, .ref pp])) (show ((pgF S) 4 : Int32) = sA S from rfl)) ?_
    refine lv_iconst (v := 1) hx hb dX6_tickBy_57 (by decide) ?_
    refine lv_iadd hx hb dX6_tickBy_58 ?_
    refine g_ist hc hw 8 4 rfl rfl (by omega) (by decide) dX6_tickBy_59 (fun H locs hw => ?_)
    have hw : g_W D A s [(o, .inr (6, [u0, u1, u2, .ref xa, .int (nI nw), .int (nI nf), .ref fa, u7, u8, u9, u10, u11, u12, u13, u14, u15, u16, u17, u18, u19, u20, u21, u22, u23, u24, u25, u26, .ref wa, .ref la, .ref ta, .int (rS K), .int (rN K), .float (rH K), .ref ma, u34, .ref sa])), (xa, .inl (E 0, 12, .inl (g_tv 0))), (fa, .inl (E 0, 18, .inl fl)), (wa, .inl (E 0, 3, .inl (rW K))), (la, .inl (E 1, 4, .inr (.inr (.inl (rP K))))), (ta, .inl (E 1, 4, .inr (.inr (.inl (rT K))))), (ma, .inl (E 1, 3, .inr (.inr (.inl (rM K))))), (sa, .inl (E 0, 9, .inl (g_tv 1))), (pp, .inl (E 0, 29, .inl (upd (pgF S) 4 ((sA S) + 1)))), (ff, .inl (E 1, 5, .inr (.inr (.inl (fl5 (wP S (FP.fadd (sP S) (FP.fmul (FP.fsub FP.fconst2 (sP S)) 1048576000))))))))] H locs := hw
    rw [pg_A] at hw
    have hw : g_W D A s [(o, .inr (6, [u0, u1, u2, .ref xa, .int (nI nw), .int (nI nf), .ref fa, u7, u8, u9, u10, u11, u12, u13, u14, u15, u16, u17, u18, u19, u20, u21, u22, u23, u24, u25, u26, .ref wa, .ref la, .ref ta, .int (rS K), .int (rN K), .float (rH K), .ref ma, u34, .ref sa])), (xa, .inl (E 0, 12, .inl (g_tv 0))), (fa, .inl (E 0, 18, .inl fl)), (wa, .inl (E 0, 3, .inl (rW K))), (la, .inl (E 1, 4, .inr (.inr (.inl (rP K))))), (ta, .inl (E 1, 4, .inr (.inr (.inl (rT K))))), (ma, .inl (E 1, 3, .inr (.inr (.inl (rM K))))), (sa, .inl (E 0, 9, .inl (g_tv 1))), (pp, .inl (E 0, 29, .inl (pgF (wA S ((sA S) + 1))))), (ff, .inl (E 1, 5, .inr (.inr (.inl (fl5 (wP S (FP.fadd (sP S) (FP.fmul (FP.fsub FP.fconst2 (sP S)) 1048576000))))))))] H locs := hw
    have hw : g_W D A s [(o, .inr (6, [u0, u1, u2, .ref xa, .int (nI nw), .int (nI nf), .ref fa, u7, u8, u9, u10, u11, u12, u13, u14, u15, u16, u17, u18, u19, u20, u21, u22, u23, u24, u25, u26, .ref wa, .ref la, .ref ta, .int (rS (rj1 nw (x3F x y z) S K)), .int (rN (rj1 nw (x3F x y z) S K)), .float (rH (rj1 nw (x3F x y z) S K)), .ref ma, u34, .ref sa])), (xa, .inl (E 0, 12, .inl (g_tv 0))), (fa, .inl (E 0, 18, .inl fl)), (wa, .inl (E 0, 3, .inl (rW (rj1 nw (x3F x y z) S K)))), (la, .inl (E 1, 4, .inr (.inr (.inl (rP (rj1 nw (x3F x y z) S K)))))), (ta, .inl (E 1, 4, .inr (.inr (.inl (rT (rj1 nw (x3F x y z) S K)))))), (ma, .inl (E 1, 3, .inr (.inr (.inl (rM (rj1 nw (x3F x y z) S K)))))), (sa, .inl (E 0, 9, .inl (g_tv 1))), (pp, .inl (E 0, 29, .inl (pgF (t1F nw (x3F x y z) S)))), (ff, .inl (E 1, 5, .inr (.inr (.inl (fl5 (t1F nw (x3F x y z) S))))))] H locs := by rw [show t1F nw (x3F x y z) S = t1S S from if_pos c_4, show rj1 nw (x3F x y z) S K = K from if_pos c_4, show pgF (t1S S) = pgF (wA (wP S (spF (sP S))) (sA S + 1)) from rfl]; rw [show pgF (wA S (sA S + 1)) = pgF (wA (wP S (spF (sP S))) (sA S + 1)) from (pgF_wP (wA S (sA S + 1)) (spF (sP S))).symm] at hw; exact hw
    exact J60   _ _ _ hw (lv_sub hl [1, 2, 3, 4, 5, 6] rfl)

theorem dX6_tickMany_0 : decode cX6_tickMany 0 = .ok (.iconst 0, 1) := by decide +kernel
theorem dX6_tickMany_1 : decode cX6_tickMany 1 = .ok (.istore 4, 2) := by decide +kernel
theorem dX6_tickMany_3 : decode cX6_tickMany 3 = .ok (.iload 4, 2) := by decide +kernel
theorem dX6_tickMany_5 : decode cX6_tickMany 5 = .ok (.iload_n 3, 1) := by decide +kernel
theorem dX6_tickMany_6 : decode cX6_tickMany 6 = .ok (.if_icmp .ge 18, 3) := by decide +kernel
theorem dX6_tickMany_9 : decode cX6_tickMany 9 = .ok (.aload_n 0, 1) := by decide +kernel
theorem dX6_tickMany_10 : decode cX6_tickMany 10 = .ok (.aload_n 1, 1) := by decide +kernel
theorem dX6_tickMany_11 : decode cX6_tickMany 11 = .ok (.aload_n 2, 1) := by decide +kernel
theorem dX6_tickMany_12 : decode cX6_tickMany 12 = .ok (.iconst 0, 1) := by decide +kernel
theorem dX6_tickMany_13 : decode cX6_tickMany 13 = .ok (.iconst 0, 1) := by decide +kernel
theorem dX6_tickMany_14 : decode cX6_tickMany 14 = .ok (.iconst 0, 1) := by decide +kernel
theorem dX6_tickMany_15 : decode cX6_tickMany 15 = .ok (.invokevirtual 208, 3) := by decide +kernel
theorem dX6_tickMany_18 : decode cX6_tickMany 18 = .ok (.iinc 4 1, 3) := by decide +kernel
theorem dX6_tickMany_21 : decode cX6_tickMany 21 = .ok (.goto (-18), 3) := by decide +kernel
theorem dX6_tickMany_24 : decode cX6_tickMany 24 = .ok (.return_, 1) := by decide +kernel
set_option maxRecDepth 20000 in
theorem ggX6_tickMany_X6_tickBy : GoodIn wsX6_tickMany wsX6_tickBy := goodIn_r _ [5, 6, 7, 8, 9, 4, 10, 11, 12, 13, 14, 15, 16, 17, 18, 19, 20, 21, 22, 23, 24, 25, 26, 27, 28, 29, 30, 31, 32, 33, 34, 35, 36, 37, 38, 39, 40, 41, 42, 43, 44, 45, 46, 47, 48, 49, 50, 51, 52, 53, 54, 55, 56, 57, 58, 59, 60, 61, 62, 63, 64, 65, 66, 67, 68, 69, 70, 71, 72, 73, 74, 75, 76, 77, 78, 79, 80, 81, 82, 83, 84, 85, 86, 87, 88, 89, 90, 91, 92, 93, 94, 95, 96, 97, 98, 99, 100, 101, 102, 103, 104, 105, 106, 107, 108, 109, 110, 111, 112] rfl (by decide +kernel)
set_option maxRecDepth 20000 in
theorem gX6_tickMany_X6_tickBy : GoodIn wsX6_tickMany (wsV RX6 208 RX6 yX6_tickBy wsX6_tickBy) := goodIn_app (goodIn_of _ (by decide +kernel)) ggX6_tickMany_X6_tickBy
set_option maxRecDepth 100000 in
set_option maxHeartbeats 4000000 in
theorem m_X6_tickMany {l : Launch} {D : va_G} {E : Nat → ClassId} {T : Nat → Nat} (o : Nat) (xa : Nat) (fa : Nat) (wa : Nat) (la : Nat) (ta : Nat) (ma : Nat) (sa : Nat) (pp : Nat) (ff : Nat) (nw : Nat) (nf : Nat) (B : Nat) (u0 : Value) (u1 : Value) (u2 : Value) (u7 : Value) (u8 : Value) (u9 : Value) (u10 : Value) (u11 : Value) (u12 : Value) (u13 : Value) (u14 : Value) (u15 : Value) (u16 : Value) (u17 : Value) (u18 : Value) (u19 : Value) (u20 : Value) (u21 : Value) (u22 : Value) (u23 : Value) (u24 : Value) (u25 : Value) (u26 : Value) (u34 : Value) (fl : Nat → Int32) (S : TS) (K : RJ) (n : Nat) (hok : OkS B S) (hB : B + n < 2 ^ 31) (hnw : nw ≤ 6) (hnf : nf ≤ 6) : g_M l D E T yX6_tickMany wsX6_tickMany 6 149 [.ref o, .ref pp, .ref ff, .int (nI n)] [(o, .inr (6, [u0, u1, u2, .ref xa, .int (nI nw), .int (nI nf), .ref fa, u7, u8, u9, u10, u11, u12, u13, u14, u15, u16, u17, u18, u19, u20, u21, u22, u23, u24, u25, u26, .ref wa, .ref la, .ref ta, .int (rS K), .int (rN K), .float (rH K), .ref ma, u34, .ref sa])), (xa, .inl (E 0, 12, .inl (g_tv 0))), (fa, .inl (E 0, 18, .inl fl)), (wa, .inl (E 0, 3, .inl (rW K))), (la, .inl (E 1, 4, .inr (.inr (.inl (rP K))))), (ta, .inl (E 1, 4, .inr (.inr (.inl (rT K))))), (ma, .inl (E 1, 3, .inr (.inr (.inl (rM K))))), (sa, .inl (E 0, 9, .inl (g_tv 1))), (pp, .inl (E 0, 29, .inl (pgF S))), (ff, .inl (E 1, 5, .inr (.inr (.inl (fl5 S)))))] [(o, .inr (6, [u0, u1, u2, .ref xa, .int (nI nw), .int (nI nf), .ref fa, u7, u8, u9, u10, u11, u12, u13, u14, u15, u16, u17, u18, u19, u20, u21, u22, u23, u24, u25, u26, .ref wa, .ref la, .ref ta, .int (rS (rjN nw nf fl (x3F 0 0 0) S K n)), .int (rN (rjN nw nf fl (x3F 0 0 0) S K n)), .float (rH (rjN nw nf fl (x3F 0 0 0) S K n)), .ref ma, u34, .ref sa])), (xa, .inl (E 0, 12, .inl (g_tv 0))), (fa, .inl (E 0, 18, .inl fl)), (wa, .inl (E 0, 3, .inl (rW (rjN nw nf fl (x3F 0 0 0) S K n)))), (la, .inl (E 1, 4, .inr (.inr (.inl (rP (rjN nw nf fl (x3F 0 0 0) S K n)))))), (ta, .inl (E 1, 4, .inr (.inr (.inl (rT (rjN nw nf fl (x3F 0 0 0) S K n)))))), (ma, .inl (E 1, 3, .inr (.inr (.inl (rM (rjN nw nf fl (x3F 0 0 0) S K n)))))), (sa, .inl (E 0, 9, .inl (g_tv 1))), (pp, .inl (E 0, 29, .inl (pgF (tkN nw nf fl (x3F 0 0 0) S n)))), (ff, .inl (E 1, 5, .inr (.inr (.inl (fl5 (tkN nw nf fl (x3F 0 0 0) S n))))))] none := by
  refine g_M.of (cc := cX6_tickMany) (nL := 5) (ret := none) (own := RX6) (lv := [(0, .ref o), (1, .ref pp), (2, .ref ff), (3, .int (nI n))]) (by decide) rfl rfl (Nat.le_of_ble_eq_true rfl) rfl ?_
  intro p e R s m args below meth c A Q H locs ls hR hQ hc hr hw hl
  have hx := hc.1
  have hb := hc.2.1
  have hts := hc.2.2.2.1
  have hown := hc.2.2.2.2.1
  refine lv_iconst (v := 0) hx hb dX6_tickMany_0 (by decide) ?_
  refine lv_istore (lv' := [(4, .int 0), (0, .ref o), (1, .ref pp), (2, .ref ff), (3, .int (nI n))]) hx hb dX6_tickMany_1 hl (by decide) rfl (fun ls hl => ?_)
  have J3 : ∀ (k9 : Nat) (i : Nat), i + k9 = n → ∀ (H : Heap) (locs : List Loc) (ls : Array Slot), g_W D A s [(o, .inr (6, [u0, u1, u2, .ref xa, .int (nI nw), .int (nI nf), .ref fa, u7, u8, u9, u10, u11, u12, u13, u14, u15, u16, u17, u18, u19, u20, u21, u22, u23, u24, u25, u26, .ref wa, .ref la, .ref ta, .int (rS (rjN nw nf fl (x3F 0 0 0) S K i)), .int (rN (rjN nw nf fl (x3F 0 0 0) S K i)), .float (rH (rjN nw nf fl (x3F 0 0 0) S K i)), .ref ma, u34, .ref sa])), (xa, .inl (E 0, 12, .inl (g_tv 0))), (fa, .inl (E 0, 18, .inl fl)), (wa, .inl (E 0, 3, .inl (rW (rjN nw nf fl (x3F 0 0 0) S K i)))), (la, .inl (E 1, 4, .inr (.inr (.inl (rP (rjN nw nf fl (x3F 0 0 0) S K i)))))), (ta, .inl (E 1, 4, .inr (.inr (.inl (rT (rjN nw nf fl (x3F 0 0 0) S K i)))))), (ma, .inl (E 1, 3, .inr (.inr (.inl (rM (rjN nw nf fl (x3F 0 0 0) S K i)))))), (sa, .inl (E 0, 9, .inl (g_tv 1))), (pp, .inl (E 0, 29, .inl (pgF (tkN nw nf fl (x3F 0 0 0) S i)))), (ff, .inl (E 1, 5, .inr (.inr (.inl (fl5 (tkN nw nf fl (x3F 0 0 0) S i))))))] H locs → lv_has ls 5 [(0, .ref o), (1, .ref pp), (2, .ref ff), (3, .int (nI n)), (4, .int (nI i))] → W p l e R s m args below meth c H locs 0 0 Q (F0 m 3 ls []) := by
    intro k9
    induction k9 with
    | zero =>
      intro i h9   H locs ls hw hl
      have h9 : n = i := Eq.symm h9
      subst h9
      refine lv_iload hx hb dX6_tickMany_3 (lv_at hl 4 rfl) ?_
      refine lv_iload_n hx hb dX6_tickMany_5 rfl (lv_at hl 3 rfl) ?_
      refine lv_icmp_ge (tgt := 24) hx hb dX6_tickMany_6 (by decide) (fun c_6 => ?_) (fun c_6 => absurd (by first | exact Int32.le_refl _ | decide) c_6)
      exact g_vret hQ hc hw hr rfl rfl dX6_tickMany_24
    | succ k9 ih =>
      intro i h9   H locs ls hw hl
      have h9b : i < n := by omega
      refine lv_iload hx hb dX6_tickMany_3 (lv_at hl 4 rfl) ?_
      refine lv_iload_n hx hb dX6_tickMany_5 rfl (lv_at hl 3 rfl) ?_
      refine lv_icmp_ge (tgt := 24) hx hb dX6_tickMany_6 (by decide) (fun c_6 => absurd c_6 (nI_ge h9b (by omega))) (fun c_6 => ?_)
      refine lv_aload_n hx hb dX6_tickMany_9 rfl (lv_at hl 0 rfl) ?_
      refine lv_aload_n hx hb dX6_tickMany_10 rfl (lv_at hl 1 rfl) ?_
      refine lv_aload_n hx hb dX6_tickMany_11 rfl (lv_at hl 2 rfl) ?_
      refine lv_iconst (v := 0) hx hb dX6_tickMany_12 (by decide) ?_
      refine lv_iconst (v := 0) hx hb dX6_tickMany_13 (by decide) ?_
      refine lv_iconst (v := 0) hx hb dX6_tickMany_14 (by decide) ?_
      refine g_cV (As := [.ref pp, .ref ff, .int 0, .int 0, .int 0]) (n := 5) (rest := []) (wc := [(o, .inr (6, [u0, u1, u2, .ref xa, .int (nI nw), .int (nI nf), .ref fa, u7, u8, u9, u10, u11, u12, u13, u14, u15, u16, u17, u18, u19, u20, u21, u22, u23, u24, u25, u26, .ref wa, .ref la, .ref ta, .int (rS (rjN nw nf fl (x3F 0 0 0) S K i)), .int (rN (rjN nw nf fl (x3F 0 0 0) S K i)), .float (rH (rjN nw nf fl (x3F 0 0 0) S K i)), .ref ma, u34, .ref sa])), (xa, .inl (E 0, 12, .inl (g_tv 0))), (fa, .inl (E 0, 18, .inl fl)), (wa, .inl (E 0, 3, .inl (rW (rjN nw nf fl (x3F 0 0 0) S K i)))), (la, .inl (E 1, 4, .inr (.inr (.inl (rP (rjN nw nf fl (x3F 0 0 0) S K i)))))), (ta, .inl (E 1, 4, .inr (.inr (.inl (rT (rjN nw nf fl (x3F 0 0 0) S K i)))))), (ma, .inl (E 1, 3, .inr (.inr (.inl (rM (rjN nw nf fl (x3F 0 0 0) S K i)))))), (sa, .inl (E 0, 9, .inl (g_tv 1))), (pp, .inl (E 0, 29, .inl (pgF (tkN nw nf fl (x3F 0 0 0) S i)))), (ff, .inl (E 1, 5, .inr (.inr (.inl (fl5 (tkN nw nf fl (x3F 0 0 0) S i))))))]) (w1 := [(o, .inr (6, [u0, u1, u2, .ref xa, .int (nI nw), .int (nI nf), .ref fa, u7, u8, u9, u10, u11, u12, u13, u14, u15, u16, u17, u18, u19, u20, u21, u22, u23, u24, u25, u26, .ref wa, .ref la, .ref ta, .int (rS (rjF nw (x3F 0 0 0) (tkN nw nf fl (x3F 0 0 0) S i) (rjN nw nf fl (x3F 0 0 0) S K i))), .int (rN (rjF nw (x3F 0 0 0) (tkN nw nf fl (x3F 0 0 0) S i) (rjN nw nf fl (x3F 0 0 0) S K i))), .float (rH (rjF nw (x3F 0 0 0) (tkN nw nf fl (x3F 0 0 0) S i) (rjN nw nf fl (x3F 0 0 0) S K i))), .ref ma, u34, .ref sa])), (xa, .inl (E 0, 12, .inl (g_tv 0))), (fa, .inl (E 0, 18, .inl fl)), (wa, .inl (E 0, 3, .inl (rW (rjF nw (x3F 0 0 0) (tkN nw nf fl (x3F 0 0 0) S i) (rjN nw nf fl (x3F 0 0 0) S K i))))), (la, .inl (E 1, 4, .inr (.inr (.inl (rP (rjF nw (x3F 0 0 0) (tkN nw nf fl (x3F 0 0 0) S i) (rjN nw nf fl (x3F 0 0 0) S K i))))))), (ta, .inl (E 1, 4, .inr (.inr (.inl (rT (rjF nw (x3F 0 0 0) (tkN nw nf fl (x3F 0 0 0) S i) (rjN nw nf fl (x3F 0 0 0) S K i))))))), (ma, .inl (E 1, 3, .inr (.inr (.inl (rM (rjF nw (x3F 0 0 0) (tkN nw nf fl (x3F 0 0 0) S i) (rjN nw nf fl (x3F 0 0 0) S K i))))))), (sa, .inl (E 0, 9, .inl (g_tv 1))), (pp, .inl (E 0, 29, .inl (pgF (tkF nw nf fl (x3F 0 0 0) (tkN nw nf fl (x3F 0 0 0) S i))))), (ff, .inl (E 1, 5, .inr (.inr (.inl (fl5 (tkF nw nf fl (x3F 0 0 0) (tkN nw nf fl (x3F 0 0 0) S i)))))))]) (bytes := cX6_tickBy) (maxL := 7) (ret := none) hc hw hl.1 (m_X6_tickBy (l := l) (D := D) (E := E) (T := T) o xa fa wa la ta ma sa pp ff nw nf (B + i) u0 u1 u2 u7 u8 u9 u10 u11 u12 u13 u14 u15 u16 u17 u18 u19 u20 u21 u22 u23 u24 u25 u26 u34 fl (tkN nw nf fl (x3F 0 0 0) S i) (rjN nw nf fl (x3F 0 0 0) S K i) 0 0 0 (hok.tn nw nf fl _ i) (by omega) hnw hnf) gX6_tickMany_X6_tickBy rfl (by decide +kernel) (by rw [hR]; exact ⟨Nat.le_of_ble_eq_true rfl, Nat.le_of_ble_eq_true rfl⟩) [0, 1, 2, 3, 4, 5, 6, 7, 8, 9] 0 6 rfl rfl (by decide) rfl [o, xa, fa, wa, la, ta, ma, sa, pp, ff] rfl rfl rfl rfl (Nat.le_of_ble_eq_true rfl) dX6_tickMany_15 ⟨Nat.zero_le _, Nat.zero_le _⟩ (fun H locs hw => ?_)
      have hw : g_W D A s [(o, .inr (6, [u0, u1, u2, .ref xa, .int (nI nw), .int (nI nf), .ref fa, u7, u8, u9, u10, u11, u12, u13, u14, u15, u16, u17, u18, u19, u20, u21, u22, u23, u24, u25, u26, .ref wa, .ref la, .ref ta, .int (rS (rjF nw (x3F 0 0 0) (tkN nw nf fl (x3F 0 0 0) S i) (rjN nw nf fl (x3F 0 0 0) S K i))), .int (rN (rjF nw (x3F 0 0 0) (tkN nw nf fl (x3F 0 0 0) S i) (rjN nw nf fl (x3F 0 0 0) S K i))), .float (rH (rjF nw (x3F 0 0 0) (tkN nw nf fl (x3F 0 0 0) S i) (rjN nw nf fl (x3F 0 0 0) S K i))), .ref ma, u34, .ref sa])), (xa, .inl (E 0, 12, .inl (g_tv 0))), (fa, .inl (E 0, 18, .inl fl)), (wa, .inl (E 0, 3, .inl (rW (rjF nw (x3F 0 0 0) (tkN nw nf fl (x3F 0 0 0) S i) (rjN nw nf fl (x3F 0 0 0) S K i))))), (la, .inl (E 1, 4, .inr (.inr (.inl (rP (rjF nw (x3F 0 0 0) (tkN nw nf fl (x3F 0 0 0) S i) (rjN nw nf fl (x3F 0 0 0) S K i))))))), (ta, .inl (E 1, 4, .inr (.inr (.inl (rT (rjF nw (x3F 0 0 0) (tkN nw nf fl (x3F 0 0 0) S i) (rjN nw nf fl (x3F 0 0 0) S K i))))))), (ma, .inl (E 1, 3, .inr (.inr (.inl (rM (rjF nw (x3F 0 0 0) (tkN nw nf fl (x3F 0 0 0) S i) (rjN nw nf fl (x3F 0 0 0) S K i))))))), (sa, .inl (E 0, 9, .inl (g_tv 1))), (pp, .inl (E 0, 29, .inl (pgF (tkF nw nf fl (x3F 0 0 0) (tkN nw nf fl (x3F 0 0 0) S i))))), (ff, .inl (E 1, 5, .inr (.inr (.inl (fl5 (tkF nw nf fl (x3F 0 0 0) (tkN nw nf fl (x3F 0 0 0) S i)))))))] H locs := hw
      refine lv_iinc (v := nI (i + 1)) (lv' := [(4, .int (nI (i + 1))), (0, .ref o), (1, .ref pp), (2, .ref ff), (3, .int (nI n))]) hx hb dX6_tickMany_18 hl (k := 4) rfl (n_inc1 rfl) (by decide) rfl (fun ls hl => ?_)
      refine lv_goto (tgt := 3) hx hb dX6_tickMany_21 (by decide) ?_
      have hw : g_W D A s [(o, .inr (6, [u0, u1, u2, .ref xa, .int (nI nw), .int (nI nf), .ref fa, u7, u8, u9, u10, u11, u12, u13, u14, u15, u16, u17, u18, u19, u20, u21, u22, u23, u24, u25, u26, .ref wa, .ref la, .ref ta, .int (rS (rjN nw nf fl (x3F 0 0 0) S K (i + 1))), .int (rN (rjN nw nf fl (x3F 0 0 0) S K (i + 1))), .float (rH (rjN nw nf fl (x3F 0 0 0) S K (i + 1))), .ref ma, u34, .ref sa])), (xa, .inl (E 0, 12, .inl (g_tv 0))), (fa, .inl (E 0, 18, .inl fl)), (wa, .inl (E 0, 3, .inl (rW (rjN nw nf fl (x3F 0 0 0) S K (i + 1))))), (la, .inl (E 1, 4, .inr (.inr (.inl (rP (rjN nw nf fl (x3F 0 0 0) S K (i + 1))))))), (ta, .inl (E 1, 4, .inr (.inr (.inl (rT (rjN nw nf fl (x3F 0 0 0) S K (i + 1))))))), (ma, .inl (E 1, 3, .inr (.inr (.inl (rM (rjN nw nf fl (x3F 0 0 0) S K (i + 1))))))), (sa, .inl (E 0, 9, .inl (g_tv 1))), (pp, .inl (E 0, 29, .inl (pgF (tkN nw nf fl (x3F 0 0 0) S (i + 1))))), (ff, .inl (E 1, 5, .inr (.inr (.inl (fl5 (tkN nw nf fl (x3F 0 0 0) S (i + 1)))))))] H locs := by
        exact hw
      exact ih (i + 1) (by omega)   _ _ _ hw (lv_sub hl [1, 2, 3, 4, 0] rfl)
  have hw : g_W D A s [(o, .inr (6, [u0, u1, u2, .ref xa, .int (nI nw), .int (nI nf), .ref fa, u7, u8, u9, u10, u11, u12, u13, u14, u15, u16, u17, u18, u19, u20, u21, u22, u23, u24, u25, u26, .ref wa, .ref la, .ref ta, .int (rS (rjN nw nf fl (x3F 0 0 0) S K 0)), .int (rN (rjN nw nf fl (x3F 0 0 0) S K 0)), .float (rH (rjN nw nf fl (x3F 0 0 0) S K 0)), .ref ma, u34, .ref sa])), (xa, .inl (E 0, 12, .inl (g_tv 0))), (fa, .inl (E 0, 18, .inl fl)), (wa, .inl (E 0, 3, .inl (rW (rjN nw nf fl (x3F 0 0 0) S K 0)))), (la, .inl (E 1, 4, .inr (.inr (.inl (rP (rjN nw nf fl (x3F 0 0 0) S K 0)))))), (ta, .inl (E 1, 4, .inr (.inr (.inl (rT (rjN nw nf fl (x3F 0 0 0) S K 0)))))), (ma, .inl (E 1, 3, .inr (.inr (.inl (rM (rjN nw nf fl (x3F 0 0 0) S K 0)))))), (sa, .inl (E 0, 9, .inl (g_tv 1))), (pp, .inl (E 0, 29, .inl (pgF (tkN nw nf fl (x3F 0 0 0) S 0)))), (ff, .inl (E 1, 5, .inr (.inr (.inl (fl5 (tkN nw nf fl (x3F 0 0 0) S 0))))))] H locs := by
    exact hw
  exact J3 n 0 (by omega)   _ _ _ hw (lv_sub hl [1, 2, 3, 4, 0] rfl)
end P22
