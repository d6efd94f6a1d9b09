section P13d
theorem dX1_unload_0 : decode cX1_unload 0 = .ok (.aload_n 0, 1) := by decide +kernel
theorem dX1_unload_1 : decode cX1_unload 1 = .ok (.getfield 9, 3) := by decide +kernel
theorem dX1_unload_4 : decode cX1_unload 4 = .ok (.aload_n 0, 1) := by decide +kernel
theorem dX1_unload_5 : decode cX1_unload 5 = .ok (.getfield 135, 3) := by decide +kernel
theorem dX1_unload_8 : decode cX1_unload 8 = .ok (.aload_n 1, 1) := by decide +kernel
theorem dX1_unload_9 : decode cX1_unload 9 = .ok (.getfield 65, 3) := by decide +kernel
theorem dX1_unload_12 : decode cX1_unload 12 = .ok (.iconst 0, 1) := by decide +kernel
theorem dX1_unload_13 : decode cX1_unload 13 = .ok (.invokestatic 103, 3) := by decide +kernel
theorem dX1_unload_16 : decode cX1_unload 16 = .ok (.istore_n 2, 1) := by decide +kernel
theorem dX1_unload_17 : decode cX1_unload 17 = .ok (.aload_n 0, 1) := by decide +kernel
theorem dX1_unload_18 : decode cX1_unload 18 = .ok (.getfield 9, 3) := by decide +kernel
theorem dX1_unload_21 : decode cX1_unload 21 = .ok (.aload_n 0, 1) := by decide +kernel
theorem dX1_unload_22 : decode cX1_unload 22 = .ok (.getfield 135, 3) := by decide +kernel
theorem dX1_unload_25 : decode cX1_unload 25 = .ok (.aload_n 1, 1) := by decide +kernel
theorem dX1_unload_26 : decode cX1_unload 26 = .ok (.getfield 65, 3) := by decide +kernel
theorem dX1_unload_29 : decode cX1_unload 29 = .ok (.iconst 1, 1) := by decide +kernel
theorem dX1_unload_30 : decode cX1_unload 30 = .ok (.invokestatic 103, 3) := by decide +kernel
theorem dX1_unload_33 : decode cX1_unload 33 = .ok (.istore_n 3, 1) := by decide +kernel
theorem dX1_unload_34 : decode cX1_unload 34 = .ok (.aload_n 0, 1) := by decide +kernel
theorem dX1_unload_35 : decode cX1_unload 35 = .ok (.getfield 9, 3) := by decide +kernel
theorem dX1_unload_38 : decode cX1_unload 38 = .ok (.aload_n 0, 1) := by decide +kernel
theorem dX1_unload_39 : decode cX1_unload 39 = .ok (.getfield 135, 3) := by decide +kernel
theorem dX1_unload_42 : decode cX1_unload 42 = .ok (.aload_n 1, 1) := by decide +kernel
theorem dX1_unload_43 : decode cX1_unload 43 = .ok (.getfield 65, 3) := by decide +kernel
theorem dX1_unload_46 : decode cX1_unload 46 = .ok (.iconst 2, 1) := by decide +kernel
theorem dX1_unload_47 : decode cX1_unload 47 = .ok (.invokestatic 103, 3) := by decide +kernel
theorem dX1_unload_50 : decode cX1_unload 50 = .ok (.istore 4, 2) := by decide +kernel
theorem dX1_unload_52 : decode cX1_unload 52 = .ok (.aload_n 1, 1) := by decide +kernel
theorem dX1_unload_53 : decode cX1_unload 53 = .ok (.iconst 0, 1) := by decide +kernel
theorem dX1_unload_54 : decode cX1_unload 54 = .ok (.invokevirtual 138, 3) := by decide +kernel
theorem dX1_unload_57 : decode cX1_unload 57 = .ok (.fstore 5, 2) := by decide +kernel
theorem dX1_unload_59 : decode cX1_unload 59 = .ok (.aload_n 1, 1) := by decide +kernel
theorem dX1_unload_60 : decode cX1_unload 60 = .ok (.iconst 1, 1) := by decide +kernel
theorem dX1_unload_61 : decode cX1_unload 61 = .ok (.invokevirtual 138, 3) := by decide +kernel
theorem dX1_unload_64 : decode cX1_unload 64 = .ok (.fstore 6, 2) := by decide +kernel
theorem dX1_unload_66 : decode cX1_unload 66 = .ok (.aload_n 1, 1) := by decide +kernel
theorem dX1_unload_67 : decode cX1_unload 67 = .ok (.iconst 2, 1) := by decide +kernel
theorem dX1_unload_68 : decode cX1_unload 68 = .ok (.invokevirtual 138, 3) := by decide +kernel
theorem dX1_unload_71 : decode cX1_unload 71 = .ok (.fstore 7, 2) := by decide +kernel
theorem dX1_unload_73 : decode cX1_unload 73 = .ok (.aload_n 1, 1) := by decide +kernel
theorem dX1_unload_74 : decode cX1_unload 74 = .ok (.getfield 115, 3) := by decide +kernel
theorem dX1_unload_77 : decode cX1_unload 77 = .ok (.iconst 2, 1) := by decide +kernel
theorem dX1_unload_78 : decode cX1_unload 78 = .ok (.iaload, 1) := by decide +kernel
theorem dX1_unload_79 : decode cX1_unload 79 = .ok (.istore 8, 2) := by decide +kernel
theorem dX1_unload_81 : decode cX1_unload 81 = .ok (.aload_n 1, 1) := by decide +kernel
theorem dX1_unload_82 : decode cX1_unload 82 = .ok (.getfield 115, 3) := by decide +kernel
theorem dX1_unload_85 : decode cX1_unload 85 = .ok (.iconst 3, 1) := by decide +kernel
theorem dX1_unload_86 : decode cX1_unload 86 = .ok (.iaload, 1) := by decide +kernel
theorem dX1_unload_87 : decode cX1_unload 87 = .ok (.istore 9, 2) := by decide +kernel
theorem dX1_unload_89 : decode cX1_unload 89 = .ok (.iload 8, 2) := by decide +kernel
theorem dX1_unload_91 : decode cX1_unload 91 = .ok (.i2f, 1) := by decide +kernel
theorem dX1_unload_92 : decode cX1_unload 92 = .ok (.iload_n 3, 1) := by decide +kernel
theorem dX1_unload_93 : decode cX1_unload 93 = .ok (.i2f, 1) := by decide +kernel
theorem dX1_unload_94 : decode cX1_unload 94 = .ok (.fload 7, 2) := by decide +kernel
theorem dX1_unload_96 : decode cX1_unload 96 = .ok (.fmul, 1) := by decide +kernel
theorem dX1_unload_97 : decode cX1_unload 97 = .ok (.iload 4, 2) := by decide +kernel
theorem dX1_unload_99 : decode cX1_unload 99 = .ok (.i2f, 1) := by decide +kernel
theorem dX1_unload_100 : decode cX1_unload 100 = .ok (.fload 6, 2) := by decide +kernel
theorem dX1_unload_102 : decode cX1_unload 102 = .ok (.fmul, 1) := by decide +kernel
theorem dX1_unload_103 : decode cX1_unload 103 = .ok (.fsub, 1) := by decide +kernel
theorem dX1_unload_104 : decode cX1_unload 104 = .ok (.fmul, 1) := by decide +kernel
theorem dX1_unload_105 : decode cX1_unload 105 = .ok (.ldc 142, 2) := by decide +kernel
theorem dX1_unload_107 : decode cX1_unload 107 = .ok (.fdiv, 1) := by decide +kernel
theorem dX1_unload_108 : decode cX1_unload 108 = .ok (.iload 9, 2) := by decide +kernel
theorem dX1_unload_110 : decode cX1_unload 110 = .ok (.invokestatic 143, 3) := by decide +kernel
theorem dX1_unload_113 : decode cX1_unload 113 = .ok (.fstore 10, 2) := by decide +kernel
theorem dX1_unload_115 : decode cX1_unload 115 = .ok (.iload 8, 2) := by decide +kernel
theorem dX1_unload_117 : decode cX1_unload 117 = .ok (.i2f, 1) := by decide +kernel
theorem dX1_unload_118 : decode cX1_unload 118 = .ok (.iload 4, 2) := by decide +kernel
theorem dX1_unload_120 : decode cX1_unload 120 = .ok (.i2f, 1) := by decide +kernel
theorem dX1_unload_121 : decode cX1_unload 121 = .ok (.fload 5, 2) := by decide +kernel
theorem dX1_unload_123 : decode cX1_unload 123 = .ok (.fmul, 1) := by decide +kernel
theorem dX1_unload_124 : decode cX1_unload 124 = .ok (.iload_n 2, 1) := by decide +kernel
theorem dX1_unload_125 : decode cX1_unload 125 = .ok (.i2f, 1) := by decide +kernel
theorem dX1_unload_126 : decode cX1_unload 126 = .ok (.fload 7, 2) := by decide +kernel
theorem dX1_unload_128 : decode cX1_unload 128 = .ok (.fmul, 1) := by decide +kernel
theorem dX1_unload_129 : decode cX1_unload 129 = .ok (.fsub, 1) := by decide +kernel
theorem dX1_unload_130 : decode cX1_unload 130 = .ok (.fmul, 1) := by decide +kernel
theorem dX1_unload_131 : decode cX1_unload 131 = .ok (.ldc 142, 2) := by decide +kernel
theorem dX1_unload_133 : decode cX1_unload 133 = .ok (.fdiv, 1) := by decide +kernel
theorem dX1_unload_134 : decode cX1_unload 134 = .ok (.iload 9, 2) := by decide +kernel
theorem dX1_unload_136 : decode cX1_unload 136 = .ok (.invokestatic 143, 3) := by decide +kernel
theorem dX1_unload_139 : decode cX1_unload 139 = .ok (.fstore 11, 2) := by decide +kernel
theorem dX1_unload_141 : decode cX1_unload 141 = .ok (.iload 8, 2) := by decide +kernel
theorem dX1_unload_143 : decode cX1_unload 143 = .ok (.i2f, 1) := by decide +kernel
theorem dX1_unload_144 : decode cX1_unload 144 = .ok (.iload_n 2, 1) := by decide +kernel
theorem dX1_unload_145 : decode cX1_unload 145 = .ok (.i2f, 1) := by decide +kernel
theorem dX1_unload_146 : decode cX1_unload 146 = .ok (.fload 6, 2) := by decide +kernel
theorem dX1_unload_148 : decode cX1_unload 148 = .ok (.fmul, 1) := by decide +kernel
theorem dX1_unload_149 : decode cX1_unload 149 = .ok (.iload_n 3, 1) := by decide +kernel
theorem dX1_unload_150 : decode cX1_unload 150 = .ok (.i2f, 1) := by decide +kernel
theorem dX1_unload_151 : decode cX1_unload 151 = .ok (.fload 5, 2) := by decide +kernel
theorem dX1_unload_153 : decode cX1_unload 153 = .ok (.fmul, 1) := by decide +kernel
theorem dX1_unload_154 : decode cX1_unload 154 = .ok (.fsub, 1) := by decide +kernel
theorem dX1_unload_155 : decode cX1_unload 155 = .ok (.fmul, 1) := by decide +kernel
theorem dX1_unload_156 : decode cX1_unload 156 = .ok (.ldc 142, 2) := by decide +kernel
theorem dX1_unload_158 : decode cX1_unload 158 = .ok (.fdiv, 1) := by decide +kernel
theorem dX1_unload_159 : decode cX1_unload 159 = .ok (.iload 9, 2) := by decide +kernel
theorem dX1_unload_161 : decode cX1_unload 161 = .ok (.invokestatic 143, 3) := by decide +kernel
theorem dX1_unload_164 : decode cX1_unload 164 = .ok (.fstore 12, 2) := by decide +kernel
theorem dX1_unload_166 : decode cX1_unload 166 = .ok (.aload_n 0, 1) := by decide +kernel
theorem dX1_unload_167 : decode cX1_unload 167 = .ok (.aload_n 1, 1) := by decide +kernel
theorem dX1_unload_168 : decode cX1_unload 168 = .ok (.fload 12, 2) := by decide +kernel
theorem dX1_unload_170 : decode cX1_unload 170 = .ok (.iload_n 3, 1) := by decide +kernel
theorem dX1_unload_171 : decode cX1_unload 171 = .ok (.i2f, 1) := by decide +kernel
theorem dX1_unload_172 : decode cX1_unload 172 = .ok (.fmul, 1) := by decide +kernel
theorem dX1_unload_173 : decode cX1_unload 173 = .ok (.fload 11, 2) := by decide +kernel
theorem dX1_unload_175 : decode cX1_unload 175 = .ok (.iload 4, 2) := by decide +kernel
theorem dX1_unload_177 : decode cX1_unload 177 = .ok (.i2f, 1) := by decide +kernel
theorem dX1_unload_178 : decode cX1_unload 178 = .ok (.fmul, 1) := by decide +kernel
theorem dX1_unload_179 : decode cX1_unload 179 = .ok (.fsub, 1) := by decide +kernel
theorem dX1_unload_180 : decode cX1_unload 180 = .ok (.ldc 147, 2) := by decide +kernel
theorem dX1_unload_182 : decode cX1_unload 182 = .ok (.fdiv, 1) := by decide +kernel
theorem dX1_unload_183 : decode cX1_unload 183 = .ok (.fload 10, 2) := by decide +kernel
theorem dX1_unload_185 : decode cX1_unload 185 = .ok (.iload 4, 2) := by decide +kernel
theorem dX1_unload_187 : decode cX1_unload 187 = .ok (.i2f, 1) := by decide +kernel
theorem dX1_unload_188 : decode cX1_unload 188 = .ok (.fmul, 1) := by decide +kernel
theorem dX1_unload_189 : decode cX1_unload 189 = .ok (.fload 12, 2) := by decide +kernel
theorem dX1_unload_191 : decode cX1_unload 191 = .ok (.iload_n 2, 1) := by decide +kernel
theorem dX1_unload_192 : decode cX1_unload 192 = .ok (.i2f, 1) := by decide +kernel
theorem dX1_unload_193 : decode cX1_unload 193 = .ok (.fmul, 1) := by decide +kernel
theorem dX1_unload_194 : decode cX1_unload 194 = .ok (.fsub, 1) := by decide +kernel
theorem dX1_unload_195 : decode cX1_unload 195 = .ok (.ldc 147, 2) := by decide +kernel
theorem dX1_unload_197 : decode cX1_unload 197 = .ok (.fdiv, 1) := by decide +kernel
theorem dX1_unload_198 : decode cX1_unload 198 = .ok (.fload 11, 2) := by decide +kernel
theorem dX1_unload_200 : decode cX1_unload 200 = .ok (.iload_n 2, 1) := by decide +kernel
theorem dX1_unload_201 : decode cX1_unload 201 = .ok (.i2f, 1) := by decide +kernel
theorem dX1_unload_202 : decode cX1_unload 202 = .ok (.fmul, 1) := by decide +kernel
theorem dX1_unload_203 : decode cX1_unload 203 = .ok (.fload 10, 2) := by decide +kernel
theorem dX1_unload_205 : decode cX1_unload 205 = .ok (.iload_n 3, 1) := by decide +kernel
theorem dX1_unload_206 : decode cX1_unload 206 = .ok (.i2f, 1) := by decide +kernel
theorem dX1_unload_207 : decode cX1_unload 207 = .ok (.fmul, 1) := by decide +kernel
theorem dX1_unload_208 : decode cX1_unload 208 = .ok (.fsub, 1) := by decide +kernel
theorem dX1_unload_209 : decode cX1_unload 209 = .ok (.ldc 147, 2) := by decide +kernel
theorem dX1_unload_211 : decode cX1_unload 211 = .ok (.fdiv, 1) := by decide +kernel
theorem dX1_unload_212 : decode cX1_unload 212 = .ok (.invokevirtual 148, 3) := by decide +kernel
theorem dX1_unload_215 : decode cX1_unload 215 = .ok (.return_, 1) := by decide +kernel
set_option maxRecDepth 20000 in
theorem ggX1_unload_X1_component : GoodIn wsX1_unload wsX1_component := goodIn_r _ [8] rfl (by decide +kernel)
set_option maxRecDepth 20000 in
theorem gX1_unload_X1_component : GoodIn wsX1_unload (va_wsS RX1 103 yX1_component wsX1_component) := goodIn_app (goodIn_of _ (by decide +kernel)) ggX1_unload_X1_component
set_option maxRecDepth 20000 in
theorem ggX1_unload_X4_momentumAlong : GoodIn wsX1_unload wsX4_momentumAlong := goodIn_r _ [12, 13, 37, 38, 39, 40, 41, 42, 43, 44, 45, 46, 47] rfl (by decide +kernel)
set_option maxRecDepth 20000 in
theorem ggX1_unload_X1_limited : GoodIn wsX1_unload wsX1_limited := goodIn_r _ [16] rfl (by decide +kernel)
set_option maxRecDepth 20000 in
theorem gX1_unload_X1_limited : GoodIn wsX1_unload (va_wsS RX1 143 yX1_limited wsX1_limited) := goodIn_app (goodIn_of _ (by decide +kernel)) ggX1_unload_X1_limited
set_option maxRecDepth 20000 in
theorem ggX1_unload_X1_turn : GoodIn wsX1_unload wsX1_turn := goodIn_r _ [20, 21, 22, 23, 10, 24, 25, 26, 14, 15, 7, 16, 27, 28, 29, 30, 31, 32, 33, 34, 35, 36, 37, 38, 39, 40, 41, 42, 43, 44, 45, 46, 47] rfl (by decide +kernel)
set_option maxRecDepth 20000 in
theorem gX1_unload_X1_turn : GoodIn wsX1_unload (wsV RX1 148 RX1 yX1_turn wsX1_turn) := goodIn_app (goodIn_of _ (by decide +kernel)) ggX1_unload_X1_turn
theorem inX1_unload_X1 : ∀ w ∈ u_ws RX1 TX1 10, w ∈ wsX1_unload := fun w h => List.mem_cons_of_mem _ (List.mem_append_left _ (List.mem_append_right _ h))
theorem inX1_unload_X4 : ∀ w ∈ u_ws RX4 TX4 11, w ∈ wsX1_unload := fun w h => List.mem_cons_of_mem _ (List.mem_append_right _ h)
set_option maxRecDepth 100000 in
set_option maxHeartbeats 4000000 in
theorem m_X1_unload {l : Launch} {D : va_G} {E : Nat → ClassId} {T : Nat → Nat} (pl : Nat) (h : Nat) (u2 : Value) (u3 : Value) (u5 : Value) (u6 : Value) (u7 : Value) (u8 : Value) (u9 : Value) (v2 : Value) (v4 : Value) (v5 : Value) (v6 : Value) (v7 : Value) (v8 : Value) (v9 : Value) (fa : Nat) (nf : Nat) (ba : Nat) (hs : Nat) (ht : Nat) (d : Nat) (ck : Nat) (fl : Nat → Int32) (b : Nat → Int32) (f : Nat → UInt32) (t : Nat → Int32) (hd : d < 16) (hf : ∀ j, j < 4 → g_mg 135 (f j)) (hb2 : ∀ j, j < 12 → (b j).toInt.natAbs ≤ 2 ^ 1) (hn : nf ≤ 6) (hck : ck < 2 ^ 31) : g_M l D E T yX1_unload wsX1_unload 2 47 [.ref pl, .ref h] [(pl, .inr (1, [.ref fa, .int (nI nf), u2, u3, .ref ba, u5, u6, u7, u8, u9])), (h, .inr (4, [.ref hs, .ref ht, v2, .int (nI d), v4, v5, v6, v7, v8, v9, .int (nI ck)])), (fa, .inl (E 0, 18, .inl fl)), (ba, .inl (E 0, 12, .inl b)), (hs, .inl (E 1, 4, .inr (.inr (.inl f)))), (ht, .inl (E 0, 4, .inl t))] [(pl, .inr (1, [.ref fa, .int (nI nf), u2, u3, .ref ba, u5, u6, u7, u8, u9])), (h, .inr (4, [.ref hs, .ref ht, v2, .int (nI d), v4, v5, v6, v7, v8, v9, .int (nI ck)])), (fa, .inl (E 0, 18, .inl fl)), (ba, .inl (E 0, 12, .inl b)), (hs, .inl (E 1, 4, .inr (.inr (.inl (amP d (ulF b fl nf ck f t) f 4))))), (ht, .inl (E 0, 4, .inl t))] none := by
  refine g_M.of (cc := cX1_unload) (nL := 13) (ret := none) (own := RX1) (lv := [(0, .ref pl), (1, .ref h)]) (by decide) rfl rfl (Nat.le_of_ble_eq_true rfl) rfl ?_
  intro p e R s m args below meth c A Q H locs ls hR hQ hc hr hw hl
  have hx := hc.1
  have hb := hc.2.1
  have hts := hc.2.2.2.1
  have hown := hc.2.2.2.2.1
  refine lv_aload_n hx hb dX1_unload_0 rfl (lv_at hl 0 rfl) ?_
  refine g_get (TT := TX1) hc hw inX1_unload_X1 0 0 1 rfl rfl (by decide) rfl rfl dX1_unload_1 ?_
  refine lv_aload_n hx hb dX1_unload_4 rfl (lv_at hl 0 rfl) ?_
  refine g_get (TT := TX1) hc hw inX1_unload_X1 0 1 2 rfl rfl (by decide) rfl rfl dX1_unload_5 ?_
  refine lv_aload_n hx hb dX1_unload_8 rfl (lv_at hl 1 rfl) ?_
  refine g_getN (TT := TX4) hc hw inX1_unload_X4 1 10 40 rfl rfl (by decide) rfl rfl dX1_unload_9 ?_
  refine lv_iconst (v := 0) hx hb dX1_unload_12 (by decide) ?_
  refine g_cS (As := [.ref fa, .int (nI nf), .int (nI ck), .int 0]) (n := 4) (rest := []) (wc := [(fa, .inl (E 0, 18, .inl fl))]) (w1 := [(fa, .inl (E 0, 18, .inl fl))]) (bytes := cX1_component) (maxL := 4) (ret := (some .int)) hc hw hl.1 (m_X1_component (l := l) (D := D) (E := E) (T := T) fa fl nf ck 0 (by first | assumption | omega | decide) (by first | assumption | omega | decide) (by first | assumption | omega | decide)) gX1_unload_X1_component rfl (by decide +kernel) (by rw [hR]; exact ⟨Nat.le_of_ble_eq_true rfl, Nat.le_of_ble_eq_true rfl⟩) [2] (by decide) rfl [fa] rfl rfl rfl rfl (Nat.le_of_ble_eq_true rfl) dX1_unload_13 ⟨Nat.zero_le _, Nat.zero_le _⟩ (fun H locs hw => ?_)
  have hw : g_W D A s [(pl, .inr (1, [.ref fa, .int (nI nf), u2, u3, .ref ba, u5, u6, u7, u8, u9])), (h, .inr (4, [.ref hs, .ref ht, v2, .int (nI d), v4, v5, v6, v7, v8, v9, .int (nI ck)])), (fa, .inl (E 0, 18, .inl fl)), (ba, .inl (E 0, 12, .inl b)), (hs, .inl (E 1, 4, .inr (.inr (.inl f)))), (ht, .inl (E 0, 4, .inl t))] H locs := hw
  refine lv_istore_n (lv' := [(2, .int (cmF fl nf ck 0)), (0, .ref pl), (1, .ref h)]) hx hb dX1_unload_16 rfl hl (by decide) rfl (fun ls hl => ?_)
  refine lv_aload_n hx hb dX1_unload_17 rfl (lv_at hl 1 rfl) ?_
  refine g_get (TT := TX1) hc hw inX1_unload_X1 0 0 1 rfl rfl (by decide) rfl rfl dX1_unload_18 ?_
  refine lv_aload_n hx hb dX1_unload_21 rfl (lv_at hl 1 rfl) ?_
  refine g_get (TT := TX1) hc hw inX1_unload_X1 0 1 2 rfl rfl (by decide) rfl rfl dX1_unload_22 ?_
  refine lv_aload_n hx hb dX1_unload_25 rfl (lv_at hl 2 rfl) ?_
  refine g_getN (TT := TX4) hc hw inX1_unload_X4 1 10 40 rfl rfl (by decide) rfl rfl dX1_unload_26 ?_
  refine lv_iconst (v := 1) hx hb dX1_unload_29 (by decide) ?_
  refine g_cS (As := [.ref fa, .int (nI nf), .int (nI ck), .int 1]) (n := 4) (rest := []) (wc := [(fa, .inl (E 0, 18, .inl fl))]) (w1 := [(fa, .inl (E 0, 18, .inl fl))]) (bytes := cX1_component) (maxL := 4) (ret := (some .int)) hc hw hl.1 (m_X1_component (l := l) (D := D) (E := E) (T := T) fa fl nf ck 1 (by first | assumption | omega | decide) (by first | assumption | omega | decide) (by first | assumption | omega | decide)) gX1_unload_X1_component rfl (by decide +kernel) (by rw [hR]; exact ⟨Nat.le_of_ble_eq_true rfl, Nat.le_of_ble_eq_true rfl⟩) [2] (by decide) rfl [fa] rfl rfl rfl rfl (Nat.le_of_ble_eq_true rfl) dX1_unload_30 ⟨Nat.zero_le _, Nat.zero_le _⟩ (fun H locs hw => ?_)
  have hw : g_W D A s [(pl, .inr (1, [.ref fa, .int (nI nf), u2, u3, .ref ba, u5, u6, u7, u8, u9])), (h, .inr (4, [.ref hs, .ref ht, v2, .int (nI d), v4, v5, v6, v7, v8, v9, .int (nI ck)])), (fa, .inl (E 0, 18, .inl fl)), (ba, .inl (E 0, 12, .inl b)), (hs, .inl (E 1, 4, .inr (.inr (.inl f)))), (ht, .inl (E 0, 4, .inl t))] H locs := hw
  refine lv_istore_n (lv' := [(3, .int (cmF fl nf ck 1)), (2, .int (cmF fl nf ck 0)), (0, .ref pl), (1, .ref h)]) hx hb dX1_unload_33 rfl hl (by decide) rfl (fun ls hl => ?_)
  refine lv_aload_n hx hb dX1_unload_34 rfl (lv_at hl 2 rfl) ?_
  refine g_get (TT := TX1) hc hw inX1_unload_X1 0 0 1 rfl rfl (by decide) rfl rfl dX1_unload_35 ?_
  refine lv_aload_n hx hb dX1_unload_38 rfl (lv_at hl 2 rfl) ?_
  refine g_get (TT := TX1) hc hw inX1_unload_X1 0 1 2 rfl rfl (by decide) rfl rfl dX1_unload_39 ?_
  refine lv_aload_n hx hb dX1_unload_42 rfl (lv_at hl 3 rfl) ?_
  refine g_getN (TT := TX4) hc hw inX1_unload_X4 1 10 40 rfl rfl (by decide) rfl rfl dX1_unload_43 ?_
  refine lv_iconst (v := 2) hx hb dX1_unload_46 (by decide) ?_
  refine g_cS (As := [.ref fa, .int (nI nf), .int (nI ck), .int 2]) (n := 4) (rest := []) (wc := [(fa, .inl (E 0, 18, .inl fl))]) (w1 := [(fa, .inl (E 0, 18, .inl fl))]) (bytes := cX1_component) (maxL := 4) (ret := (some .int)) hc hw hl.1 (m_X1_component (l := l) (D := D) (E := E) (T := T) fa fl nf ck 2 (by first | assumption | omega | decide) (by first | assumption | omega | decide) (by first | assumption | omega | decide)) gX1_unload_X1_component rfl (by decide +kernel) (by rw [hR]; exact ⟨Nat.le_of_ble_eq_true rfl, Nat.le_of_ble_eq_true rfl⟩) [2] (by decide) rfl [fa] rfl rfl rfl rfl (Nat.le_of_ble_eq_true rfl) dX1_unload_47 ⟨Nat.zero_le _, Nat.zero_le _⟩ (fun H locs hw => ?_)
  have hw : g_W D A s [(pl, .inr (1, [.ref fa, .int (nI nf), u2, u3, .ref ba, u5, u6, u7, u8, u9])), (h, .inr (4, [.ref hs, .ref ht, v2, .int (nI d), v4, v5, v6, v7, v8, v9, .int (nI ck)])), (fa, .inl (E 0, 18, .inl fl)), (ba, .inl (E 0, 12, .inl b)), (hs, .inl (E 1, 4, .inr (.inr (.inl f)))), (ht, .inl (E 0, 4, .inl t))] H locs := hw
  refine lv_istore (lv' := [(4, .int (cmF fl nf ck 2)), (3, .int (cmF fl nf ck 1)), (2, .int (cmF fl nf ck 0)), (0, .ref pl), (1, .ref h)]) hx hb dX1_unload_50 hl (by decide) rfl (fun ls hl => ?_)
  refine lv_aload_n hx hb dX1_unload_52 rfl (lv_at hl 4 rfl) ?_
  refine lv_iconst (v := 0) hx hb dX1_unload_53 (by decide) ?_
  refine g_cVN (As := [.int 0]) (n := 1) (rest := []) (wc := [(h, .inr (4, [.ref hs, .ref ht, v2, .int (nI d), v4, v5, v6, v7, v8, v9, .int (nI ck)])), (hs, .inl (E 1, 4, .inr (.inr (.inl f))))]) (w1 := [(h, .inr (4, [.ref hs, .ref ht, v2, .int (nI d), v4, v5, v6, v7, v8, v9, .int (nI ck)])), (hs, .inl (E 1, 4, .inr (.inr (.inl f))))]) (bytes := cX4_momentumAlong) (maxL := 2) (ret := (some .float)) hc hw hl.1 (m_X4_momentumAlong (l := l) (D := D) (E := E) (T := T) h (.ref ht) v2 (.int (nI d)) v4 v5 v6 v7 v8 v9 (.int (nI ck)) hs f 0 (by first | assumption | omega | decide) (by first | assumption | omega | decide)) ggX1_unload_X4_momentumAlong rfl 64 rfl 10 9 11 rfl rfl rfl (by decide +kernel) (by rw [hR]; exact ⟨Nat.le_of_ble_eq_true rfl, Nat.le_of_ble_eq_true rfl⟩) [1, 4] 1 4 rfl rfl (by decide) rfl [h, hs] rfl rfl rfl rfl (Nat.le_of_ble_eq_true rfl) dX1_unload_54 ⟨Nat.zero_le _, Nat.zero_le _⟩ (fun H locs hw => ?_)
  have hw : g_W D A s [(pl, .inr (1, [.ref fa, .int (nI nf), u2, u3, .ref ba, u5, u6, u7, u8, u9])), (h, .inr (4, [.ref hs, .ref ht, v2, .int (nI d), v4, v5, v6, v7, v8, v9, .int (nI ck)])), (fa, .inl (E 0, 18, .inl fl)), (ba, .inl (E 0, 12, .inl b)), (hs, .inl (E 1, 4, .inr (.inr (.inl f)))), (ht, .inl (E 0, 4, .inl t))] H locs := hw
  refine lv_fstore (lv' := [(5, .float (moF f 0)), (4, .int (cmF fl nf ck 2)), (3, .int (cmF fl nf ck 1)), (2, .int (cmF fl nf ck 0)), (0, .ref pl), (1, .ref h)]) hx hb dX1_unload_57 hl (by decide) rfl (fun ls hl => ?_)
  refine lv_aload_n hx hb dX1_unload_59 rfl (lv_at hl 5 rfl) ?_
  refine lv_iconst (v := 1) hx hb dX1_unload_60 (by decide) ?_
  refine g_cVN (As := [.int 1]) (n := 1) (rest := []) (wc := [(h, .inr (4, [.ref hs, .ref ht, v2, .int (nI d), v4, v5, v6, v7, v8, v9, .int (nI ck)])), (hs, .inl (E 1, 4, .inr (.inr (.inl f))))]) (w1 := [(h, .inr (4, [.ref hs, .ref ht, v2, .int (nI d), v4, v5, v6, v7, v8, v9, .int (nI ck)])), (hs, .inl (E 1, 4, .inr (.inr (.inl f))))]) (bytes := cX4_momentumAlong) (maxL := 2) (ret := (some .float)) hc hw hl.1 (m_X4_momentumAlong (l := l) (D := D) (E := E) (T := T) h (.ref ht) v2 (.int (nI d)) v4 v5 v6 v7 v8 v9 (.int (nI ck)) hs f 1 (by first | assumption | omega | decide) (by first | assumption | omega | decide)) ggX1_unload_X4_momentumAlong rfl 64 rfl 10 9 11 rfl rfl rfl (by decide +kernel) (by rw [hR]; exact ⟨Nat.le_of_ble_eq_true rfl, Nat.le_of_ble_eq_true rfl⟩) [1, 4] 1 4 rfl rfl (by decide) rfl [h, hs] rfl rfl rfl rfl (Nat.le_of_ble_eq_true rfl) dX1_unload_61 ⟨Nat.zero_le _, Nat.zero_le _⟩ (fun H locs hw => ?_)
  have hw : g_W D A s [(pl, .inr (1, [.ref fa, .int (nI nf), u2, u3, .ref ba, u5, u6, u7, u8, u9])), (h, .inr (4, [.ref hs, .ref ht, v2, .int (nI d), v4, v5, v6, v7, v8, v9, .int (nI ck)])), (fa, .inl (E 0, 18, .inl fl)), (ba, .inl (E 0, 12, .inl b)), (hs, .inl (E 1, 4, .inr (.inr (.inl f)))), (ht, .inl (E 0, 4, .inl t))] H locs := hw
  refine lv_fstore (lv' := [(6, .float (moF f 1)), (5, .float (moF f 0)), (4, .int (cmF fl nf ck 2)), (3, .int (cmF fl nf ck 1)), (2, .int (cmF fl nf ck 0)), (0, .ref pl), (1, .ref h)]) hx hb dX1_unload_64 hl (by decide) rfl (fun ls hl => ?_)
  refine lv_aload_n hx hb dX1_unload_66 rfl (lv_at hl 6 rfl) ?_
  refine lv_iconst (v := 2) hx hb dX1_unload_67 (by decide) ?_
  refine g_cVN (As := [.int 2]) (n := 1) (rest := []) (wc := [(h, .inr (4, [.ref hs, .ref ht, v2, .int (nI d), v4, v5, v6, v7, v8, v9, .int (nI ck)])), (hs, .inl (E 1, 4, .inr (.inr (.inl f))))]) (w1 := [(h, .inr (4, [.ref hs, .ref ht, v2, .int (nI d), v4, v5, v6, v7, v8, v9, .int (nI ck)])), (hs, .inl (E 1, 4, .inr (.inr (.inl f))))]) (bytes := cX4_momentumAlong) (maxL := 2) (ret := (some .float)) hc hw hl.1 (m_X4_momentumAlong (l := l) (D := D) (E := E) (T := T) h (.ref ht) v2 (.int (nI d)) v4 v5 v6 v7 v8 v9 (.int (nI ck)) hs f 2 (by first | assumption | omega | decide) (by first | assumption | omega | decide)) ggX1_unload_X4_momentumAlong rfl 64 rfl 10 9 11 rfl rfl rfl (by decide +kernel) (by rw [hR]; exact ⟨Nat.le_of_ble_eq_true rfl, Nat.le_of_ble_eq_true rfl⟩) [1, 4] 1 4 rfl rfl (by decide) rfl [h, hs] rfl rfl rfl rfl (Nat.le_of_ble_eq_true rfl) dX1_unload_68 ⟨Nat.zero_le _, Nat.zero_le _⟩ (fun H locs hw => ?_)
  have hw : g_W D A s [(pl, .inr (1, [.ref fa, .int (nI nf), u2, u3, .ref ba, u5, u6, u7, u8, u9])), (h, .inr (4, [.ref hs, .ref ht, v2, .int (nI d), v4, v5, v6, v7, v8, v9, .int (nI ck)])), (fa, .inl (E 0, 18, .inl fl)), (ba, .inl (E 0, 12, .inl b)), (hs, .inl (E 1, 4, .inr (.inr (.inl f)))), (ht, .inl (E 0, 4, .inl t))] H locs := hw
  refine lv_fstore (lv' := [(7, .float (moF f 2)), (6, .float (moF f 1)), (5, .float (moF f 0)), (4, .int (cmF fl nf ck 2)), (3, .int (cmF fl nf ck 1)), (2, .int (cmF fl nf ck 0)), (0, .ref pl), (1, .ref h)]) hx hb dX1_unload_71 hl (by decide) rfl (fun ls hl => ?_)
  refine lv_aload_n hx hb dX1_unload_73 rfl (lv_at hl 7 rfl) ?_
  refine g_getN (TT := TX4) hc hw inX1_unload_X4 1 1 19 rfl rfl (by decide) rfl rfl dX1_unload_74 ?_
  refine lv_iconst (v := 2) hx hb dX1_unload_77 (by decide) ?_
  refine g_ild hc hw 5 2 rfl rfl (by omega) (by decide) dX1_unload_78 ?_
  refine lv_istore (lv' := [(8, .int (t 2)), (7, .float (moF f 2)), (6, .float (moF f 1)), (5, .float (moF f 0)), (4, .int (cmF fl nf ck 2)), (3, .int (cmF fl nf ck 1)), (2, .int (cmF fl nf ck 0)), (0, .ref pl), (1, .ref h)]) hx hb dX1_unload_79 hl (by decide) rfl (fun ls hl => ?_)
  refine lv_aload_n hx hb dX1_unload_81 rfl (lv_at hl 8 rfl) ?_
  refine g_getN (TT := TX4) hc hw inX1_unload_X4 1 1 19 rfl rfl (by decide) rfl rfl dX1_unload_82 ?_
  refine lv_iconst (v := 3) hx hb dX1_unload_85 (by decide) ?_
  refine g_ild hc hw 5 3 rfl rfl (by omega) (by decide) dX1_unload_86 ?_
  refine lv_istore (lv' := [(9, .int (t 3)), (8, .int (t 2)), (7, .float (moF f 2)), (6, .float (moF f 1)), (5, .float (moF f 0)), (4, .int (cmF fl nf ck 2)), (3, .int (cmF fl nf ck 1)), (2, .int (cmF fl nf ck 0)), (0, .ref pl), (1, .ref h)]) hx hb dX1_unload_87 hl (by decide) rfl (fun ls hl => ?_)
  refine lv_iload hx hb dX1_unload_89 (lv_at hl 1 rfl) ?_
  refine lv_i2f hx hb dX1_unload_91 ?_
  refine lv_iload_n hx hb dX1_unload_92 rfl (lv_at hl 6 rfl) ?_
  refine lv_i2f hx hb dX1_unload_93 ?_
  refine lv_fload hx hb dX1_unload_94 (lv_at hl 2 rfl) ?_
  refine lv_fmul hx hb dX1_unload_96 (g_nn (g_mgmul (Ka := 160) (Kb := 143) (K := 177) (g_mgi _) (g_mgmo (by assumption) (by first | assumption | omega)) (by decide) (by decide)) (by decide)) ?_
  refine lv_iload hx hb dX1_unload_97 (lv_at hl 5 rfl) ?_
  refine lv_i2f hx hb dX1_unload_99 ?_
  refine lv_fload hx hb dX1_unload_100 (lv_at hl 3 rfl) ?_
  refine lv_fmul hx hb dX1_unload_102 (g_nn (g_mgmul (Ka := 160) (Kb := 143) (K := 177) (g_mgi _) (g_mgmo (by assumption) (by first | assumption | omega)) (by decide) (by decide)) (by decide)) ?_
  refine lv_fsub hx hb dX1_unload_103 (g_nn (g_mgsub (Ka := 177) (Kb := 177) (K := 177) (g_mgmul (Ka := 160) (Kb := 143) (K := 177) (g_mgi _) (g_mgmo (by assumption) (by first | assumption | omega)) (by decide) (by decide)) (g_mgmul (Ka := 160) (Kb := 143) (K := 177) (g_mgi _) (g_mgmo (by assumption) (by first | assumption | omega)) (by decide) (by decide)) (by decide) (by decide) (by decide)) (by decide)) ?_
  refine lv_fmul hx hb dX1_unload_104 (g_nn (g_mgmul (Ka := 160) (Kb := 179) (K := 213) (g_mgi _) (g_mgsub (Ka := 177) (Kb := 177) (K := 177) (g_mgmul (Ka := 160) (Kb := 143) (K := 177) (g_mgi _) (g_mgmo (by assumption) (by first | assumption | omega)) (by decide) (by decide)) (g_mgmul (Ka := 160) (Kb := 143) (K := 177) (g_mgi _) (g_mgmo (by assumption) (by first | assumption | omega)) (by decide) (by decide)) (by decide) (by decide) (by decide)) (by decide) (by decide)) (by decide)) ?_
  refine lv_ldcf (v := 1098907648) hx hb hown (hts _ (List.mem_of_getElem? (i := 3) rfl)) dX1_unload_105 ?_
  refine lv_fdiv hx hb dX1_unload_107 (g_nn (g_mgdiv (K := 210) (L := 131) (g_mgmul (Ka := 160) (Kb := 179) (K := 213) (g_mgi _) (g_mgsub (Ka := 177) (Kb := 177) (K := 177) (g_mgmul (Ka := 160) (Kb := 143) (K := 177) (g_mgi _) (g_mgmo (by assumption) (by first | assumption | omega)) (by decide) (by decide)) (g_mgmul (Ka := 160) (Kb := 143) (K := 177) (g_mgi _) (g_mgmo (by assumption) (by first | assumption | omega)) (by decide) (by decide)) (by decide) (by decide) (by decide)) (by decide) (by decide)) (by decide) (by decide) (by decide) (by decide)) (by decide)) ?_
  refine lv_iload hx hb dX1_unload_108 (lv_at hl 0 rfl) ?_
  refine g_cS (As := [.float (FP.fdiv (FP.fmul (FP.i2f (t 2)) (FP.fsub (FP.fmul (FP.i2f (cmF fl nf ck 1)) (moF f 2)) (FP.fmul (FP.i2f (cmF fl nf ck 2)) (moF f 1)))) 1098907648), .int (t 3)]) (n := 2) (rest := []) (wc := []) (w1 := []) (bytes := cX1_limited) (maxL := 2) (ret := (some .float)) hc hw hl.1 (m_X1_limited (l := l) (D := D) (E := E) (T := T) (FP.fdiv (FP.fmul (FP.i2f (t 2)) (FP.fsub (FP.fmul (FP.i2f (cmF fl nf ck 1)) (moF f 2)) (FP.fmul (FP.i2f (cmF fl nf ck 2)) (moF f 1)))) 1098907648) (t 3)) gX1_unload_X1_limited rfl (by decide +kernel) (by rw [hR]; exact ⟨Nat.le_of_ble_eq_true rfl, Nat.le_of_ble_eq_true rfl⟩) [] (by decide) rfl [] rfl rfl rfl rfl (Nat.le_of_ble_eq_true rfl) dX1_unload_110 ⟨Nat.zero_le _, Nat.zero_le _⟩ (fun H locs hw => ?_)
  have hw : g_W D A s [(pl, .inr (1, [.ref fa, .int (nI nf), u2, u3, .ref ba, u5, u6, u7, u8, u9])), (h, .inr (4, [.ref hs, .ref ht, v2, .int (nI d), v4, v5, v6, v7, v8, v9, .int (nI ck)])), (fa, .inl (E 0, 18, .inl fl)), (ba, .inl (E 0, 12, .inl b)), (hs, .inl (E 1, 4, .inr (.inr (.inl f)))), (ht, .inl (E 0, 4, .inl t))] H locs := hw
  refine W.eq (congrArg (fun z => F0 m 113 ls (.float z :: [])) (show (limF (FP.fdiv (FP.fmul (FP.i2f (t 2)) (FP.fsub (FP.fmul (FP.i2f (cmF fl nf ck 1)) (moF f 2)) (FP.fmul (FP.i2f (cmF fl nf ck 2)) (moF f 1)))) 1098907648) (t 3) : UInt32) = cuU fl nf ck f t from rfl)) ?_
  refine lv_fstore (lv' := [(10, .float (cuU fl nf ck f t)), (9, .int (t 3)), (8, .int (t 2)), (7, .float (moF f 2)), (6, .float (moF f 1)), (5, .float (moF f 0)), (4, .int (cmF fl nf ck 2)), (3, .int (cmF fl nf ck 1)), (2, .int (cmF fl nf ck 0)), (0, .ref pl), (1, .ref h)]) hx hb dX1_unload_113 hl (by decide) rfl (fun ls hl => ?_)
  refine lv_iload hx hb dX1_unload_115 (lv_at hl 2 rfl) ?_
  refine lv_i2f hx hb dX1_unload_117 ?_
  refine lv_iload hx hb dX1_unload_118 (lv_at hl 6 rfl) ?_
  refine lv_i2f hx hb dX1_unload_120 ?_
  refine lv_fload hx hb dX1_unload_121 (lv_at hl 5 rfl) ?_
  refine lv_fmul hx hb dX1_unload_123 (g_nn (g_mgmul (Ka := 160) (Kb := 143) (K := 177) (g_mgi _) (g_mgmo (by assumption) (by first | assumption | omega)) (by decide) (by decide)) (by decide)) ?_
  refine lv_iload_n hx hb dX1_unload_124 rfl (lv_at hl 8 rfl) ?_
  refine lv_i2f hx hb dX1_unload_125 ?_
  refine lv_fload hx hb dX1_unload_126 (lv_at hl 3 rfl) ?_
  refine lv_fmul hx hb dX1_unload_128 (g_nn (g_mgmul (Ka := 160) (Kb := 143) (K := 177) (g_mgi _) (g_mgmo (by assumption) (by first | assumption | omega)) (by decide) (by decide)) (by decide)) ?_
  refine lv_fsub hx hb dX1_unload_129 (g_nn (g_mgsub (Ka := 177) (Kb := 177) (K := 177) (g_mgmul (Ka := 160) (Kb := 143) (K := 177) (g_mgi _) (g_mgmo (by assumption) (by first | assumption | omega)) (by decide) (by decide)) (g_mgmul (Ka := 160) (Kb := 143) (K := 177) (g_mgi _) (g_mgmo (by assumption) (by first | assumption | omega)) (by decide) (by decide)) (by decide) (by decide) (by decide)) (by decide)) ?_
  refine lv_fmul hx hb dX1_unload_130 (g_nn (g_mgmul (Ka := 160) (Kb := 179) (K := 213) (g_mgi _) (g_mgsub (Ka := 177) (Kb := 177) (K := 177) (g_mgmul (Ka := 160) (Kb := 143) (K := 177) (g_mgi _) (g_mgmo (by assumption) (by first | assumption | omega)) (by decide) (by decide)) (g_mgmul (Ka := 160) (Kb := 143) (K := 177) (g_mgi _) (g_mgmo (by assumption) (by first | assumption | omega)) (by decide) (by decide)) (by decide) (by decide) (by decide)) (by decide) (by decide)) (by decide)) ?_
  refine lv_ldcf (v := 1098907648) hx hb hown (hts _ (List.mem_of_getElem? (i := 3) rfl)) dX1_unload_131 ?_
  refine lv_fdiv hx hb dX1_unload_133 (g_nn (g_mgdiv (K := 210) (L := 131) (g_mgmul (Ka := 160) (Kb := 179) (K := 213) (g_mgi _) (g_mgsub (Ka := 177) (Kb := 177) (K := 177) (g_mgmul (Ka := 160) (Kb := 143) (K := 177) (g_mgi _) (g_mgmo (by assumption) (by first | assumption | omega)) (by decide) (by decide)) (g_mgmul (Ka := 160) (Kb := 143) (K := 177) (g_mgi _) (g_mgmo (by assumption) (by first | assumption | omega)) (by decide) (by decide)) (by decide) (by decide) (by decide)) (by decide) (by decide)) (by decide) (by decide) (by decide) (by decide)) (by decide)) ?_
  refine lv_iload hx hb dX1_unload_134 (lv_at hl 1 rfl) ?_
  refine g_cS (As := [.float (FP.fdiv (FP.fmul (FP.i2f (t 2)) (FP.fsub (FP.fmul (FP.i2f (cmF fl nf ck 2)) (moF f 0)) (FP.fmul (FP.i2f (cmF fl nf ck 0)) (moF f 2)))) 1098907648), .int (t 3)]) (n := 2) (rest := []) (wc := []) (w1 := []) (bytes := cX1_limited) (maxL := 2) (ret := (some .float)) hc hw hl.1 (m_X1_limited (l := l) (D := D) (E := E) (T := T) (FP.fdiv (FP.fmul (FP.i2f (t 2)) (FP.fsub (FP.fmul (FP.i2f (cmF fl nf ck 2)) (moF f 0)) (FP.fmul (FP.i2f (cmF fl nf ck 0)) (moF f 2)))) 1098907648) (t 3)) gX1_unload_X1_limited rfl (by decide +kernel) (by rw [hR]; exact ⟨Nat.le_of_ble_eq_true rfl, Nat.le_of_ble_eq_true rfl⟩) [] (by decide) rfl [] rfl rfl rfl rfl (Nat.le_of_ble_eq_true rfl) dX1_unload_136 ⟨Nat.zero_le _, Nat.zero_le _⟩ (fun H locs hw => ?_)
  have hw : g_W D A s [(pl, .inr (1, [.ref fa, .int (nI nf), u2, u3, .ref ba, u5, u6, u7, u8, u9])), (h, .inr (4, [.ref hs, .ref ht, v2, .int (nI d), v4, v5, v6, v7, v8, v9, .int (nI ck)])), (fa, .inl (E 0, 18, .inl fl)), (ba, .inl (E 0, 12, .inl b)), (hs, .inl (E 1, 4, .inr (.inr (.inl f)))), (ht, .inl (E 0, 4, .inl t))] H locs := hw
  refine W.eq (congrArg (fun z => F0 m 139 ls (.float z :: [])) (show (limF (FP.fdiv (FP.fmul (FP.i2f (t 2)) (FP.fsub (FP.fmul (FP.i2f (cmF fl nf ck 2)) (moF f 0)) (FP.fmul (FP.i2f (cmF fl nf ck 0)) (moF f 2)))) 1098907648) (t 3) : UInt32) = cuV fl nf ck f t from rfl)) ?_
  refine lv_fstore (lv' := [(11, .float (cuV fl nf ck f t)), (10, .float (cuU fl nf ck f t)), (9, .int (t 3)), (8, .int (t 2)), (7, .float (moF f 2)), (6, .float (moF f 1)), (5, .float (moF f 0)), (4, .int (cmF fl nf ck 2)), (3, .int (cmF fl nf ck 1)), (2, .int (cmF fl nf ck 0)), (0, .ref pl), (1, .ref h)]) hx hb dX1_unload_139 hl (by decide) rfl (fun ls hl => ?_)
  refine lv_iload hx hb dX1_unload_141 (lv_at hl 3 rfl) ?_
  refine lv_i2f hx hb dX1_unload_143 ?_
  refine lv_iload_n hx hb dX1_unload_144 rfl (lv_at hl 9 rfl) ?_
  refine lv_i2f hx hb dX1_unload_145 ?_
  refine lv_fload hx hb dX1_unload_146 (lv_at hl 5 rfl) ?_
  refine lv_fmul hx hb dX1_unload_148 (g_nn (g_mgmul (Ka := 160) (Kb := 143) (K := 177) (g_mgi _) (g_mgmo (by assumption) (by first | assumption | omega)) (by decide) (by decide)) (by decide)) ?_
  refine lv_iload_n hx hb dX1_unload_149 rfl (lv_at hl 8 rfl) ?_
  refine lv_i2f hx hb dX1_unload_150 ?_
  refine lv_fload hx hb dX1_unload_151 (lv_at hl 6 rfl) ?_
  refine lv_fmul hx hb dX1_unload_153 (g_nn (g_mgmul (Ka := 160) (Kb := 143) (K := 177) (g_mgi _) (g_mgmo (by assumption) (by first | assumption | omega)) (by decide) (by decide)) (by decide)) ?_
  refine lv_fsub hx hb dX1_unload_154 (g_nn (g_mgsub (Ka := 177) (Kb := 177) (K := 177) (g_mgmul (Ka := 160) (Kb := 143) (K := 177) (g_mgi _) (g_mgmo (by assumption) (by first | assumption | omega)) (by decide) (by decide)) (g_mgmul (Ka := 160) (Kb := 143) (K := 177) (g_mgi _) (g_mgmo (by assumption) (by first | assumption | omega)) (by decide) (by decide)) (by decide) (by decide) (by decide)) (by decide)) ?_
  refine lv_fmul hx hb dX1_unload_155 (g_nn (g_mgmul (Ka := 160) (Kb := 179) (K := 213) (g_mgi _) (g_mgsub (Ka := 177) (Kb := 177) (K := 177) (g_mgmul (Ka := 160) (Kb := 143) (K := 177) (g_mgi _) (g_mgmo (by assumption) (by first | assumption | omega)) (by decide) (by decide)) (g_mgmul (Ka := 160) (Kb := 143) (K := 177) (g_mgi _) (g_mgmo (by assumption) (by first | assumption | omega)) (by decide) (by decide)) (by decide) (by decide) (by decide)) (by decide) (by decide)) (by decide)) ?_
  refine lv_ldcf (v := 1098907648) hx hb hown (hts _ (List.mem_of_getElem? (i := 3) rfl)) dX1_unload_156 ?_
  refine lv_fdiv hx hb dX1_unload_158 (g_nn (g_mgdiv (K := 210) (L := 131) (g_mgmul (Ka := 160) (Kb := 179) (K := 213) (g_mgi _) (g_mgsub (Ka := 177) (Kb := 177) (K := 177) (g_mgmul (Ka := 160) (Kb := 143) (K := 177) (g_mgi _) (g_mgmo (by assumption) (by first | assumption | omega)) (by decide) (by decide)) (g_mgmul (Ka := 160) (Kb := 143) (K := 177) (g_mgi _) (g_mgmo (by assumption) (by first | assumption | omega)) (by decide) (by decide)) (by decide) (by decide) (by decide)) (by decide) (by decide)) (by decide) (by decide) (by decide) (by decide)) (by decide)) ?_
  refine lv_iload hx hb dX1_unload_159 (lv_at hl 2 rfl) ?_
  refine g_cS (As := [.float (FP.fdiv (FP.fmul (FP.i2f (t 2)) (FP.fsub (FP.fmul (FP.i2f (cmF fl nf ck 0)) (moF f 1)) (FP.fmul (FP.i2f (cmF fl nf ck 1)) (moF f 0)))) 1098907648), .int (t 3)]) (n := 2) (rest := []) (wc := []) (w1 := []) (bytes := cX1_limited) (maxL := 2) (ret := (some .float)) hc hw hl.1 (m_X1_limited (l := l) (D := D) (E := E) (T := T) (FP.fdiv (FP.fmul (FP.i2f (t 2)) (FP.fsub (FP.fmul (FP.i2f (cmF fl nf ck 0)) (moF f 1)) (FP.fmul (FP.i2f (cmF fl nf ck 1)) (moF f 0)))) 1098907648) (t 3)) gX1_unload_X1_limited rfl (by decide +kernel) (by rw [hR]; exact ⟨Nat.le_of_ble_eq_true rfl, Nat.le_of_ble_eq_true rfl⟩) [] (by decide) rfl [] rfl rfl rfl rfl (Nat.le_of_ble_eq_true rfl) dX1_unload_161 ⟨Nat.zero_le _, Nat.zero_le _⟩ (fun H locs hw => ?_)
  have hw : g_W D A s [(pl, .inr (1, [.ref fa, .int (nI nf), u2, u3, .ref ba, u5, u6, u7, u8, u9])), (h, .inr (4, [.ref hs, .ref ht, v2, .int (nI d), v4, v5, v6, v7, v8, v9, .int (nI ck)])), (fa, .inl (E 0, 18, .inl fl)), (ba, .inl (E 0, 12, .inl b)), (hs, .inl (E 1, 4, .inr (.inr (.inl f)))), (ht, .inl (E 0, 4, .inl t))] H locs := hw
  refine W.eq (congrArg (fun z => F0 m 164 ls (.float z :: [])) (show (limF (FP.fdiv (FP.fmul (FP.i2f (t 2)) (FP.fsub (FP.fmul (FP.i2f (cmF fl nf ck 0)) (moF f 1)) (FP.fmul (FP.i2f (cmF fl nf ck 1)) (moF f 0)))) 1098907648) (t 3) : UInt32) = cuW fl nf ck f t from rfl)) ?_
  refine lv_fstore (lv' := [(12, .float (cuW fl nf ck f t)), (11, .float (cuV fl nf ck f t)), (10, .float (cuU fl nf ck f t)), (9, .int (t 3)), (8, .int (t 2)), (7, .float (moF f 2)), (6, .float (moF f 1)), (5, .float (moF f 0)), (4, .int (cmF fl nf ck 2)), (3, .int (cmF fl nf ck 1)), (2, .int (cmF fl nf ck 0)), (0, .ref pl), (1, .ref h)]) hx hb dX1_unload_164 hl (by decide) rfl (fun ls hl => ?_)
  refine lv_aload_n hx hb dX1_unload_166 rfl (lv_at hl 11 rfl) ?_
  refine lv_aload_n hx hb dX1_unload_167 rfl (lv_at hl 12 rfl) ?_
  refine lv_fload hx hb dX1_unload_168 (lv_at hl 0 rfl) ?_
  refine lv_iload_n hx hb dX1_unload_170 rfl (lv_at hl 9 rfl) ?_
  refine lv_i2f hx hb dX1_unload_171 ?_
  refine lv_fmul hx hb dX1_unload_172 (g_nn (g_mgmul (Ka := 210) (Kb := 160) (K := 244) ((g_mgcu _ _ _ _ _ hf).2.2) (g_mgi _) (by decide) (by decide)) (by decide)) ?_
  refine lv_fload hx hb dX1_unload_173 (lv_at hl 1 rfl) ?_
  refine lv_iload hx hb dX1_unload_175 (lv_at hl 8 rfl) ?_
  refine lv_i2f hx hb dX1_unload_177 ?_
  refine lv_fmul hx hb dX1_unload_178 (g_nn (g_mgmul (Ka := 210) (Kb := 160) (K := 244) ((g_mgcu _ _ _ _ _ hf).2.1) (g_mgi _) (by decide) (by decide)) (by decide)) ?_
  refine lv_fsub hx hb dX1_unload_179 (g_nn (g_mgsub (Ka := 244) (Kb := 244) (K := 244) (g_mgmul (Ka := 210) (Kb := 160) (K := 244) ((g_mgcu _ _ _ _ _ hf).2.2) (g_mgi _) (by decide) (by decide)) (g_mgmul (Ka := 210) (Kb := 160) (K := 244) ((g_mgcu _ _ _ _ _ hf).2.1) (g_mgi _) (by decide) (by decide)) (by decide) (by decide) (by decide)) (by decide)) ?_
  refine lv_ldcf (v := 1115684864) hx hb hown (hts _ (List.mem_of_getElem? (i := 4) rfl)) dX1_unload_180 ?_
  refine lv_fdiv hx hb dX1_unload_182 (g_nn (g_mgdiv (K := 241) (L := 133) (g_mgsub (Ka := 244) (Kb := 244) (K := 244) (g_mgmul (Ka := 210) (Kb := 160) (K := 244) ((g_mgcu _ _ _ _ _ hf).2.2) (g_mgi _) (by decide) (by decide)) (g_mgmul (Ka := 210) (Kb := 160) (K := 244) ((g_mgcu _ _ _ _ _ hf).2.1) (g_mgi _) (by decide) (by decide)) (by decide) (by decide) (by decide)) (by decide) (by decide) (by decide) (by decide)) (by decide)) ?_
  refine lv_fload hx hb dX1_unload_183 (lv_at hl 2 rfl) ?_
  refine lv_iload hx hb dX1_unload_185 (lv_at hl 8 rfl) ?_
  refine lv_i2f hx hb dX1_unload_187 ?_
  refine lv_fmul hx hb dX1_unload_188 (g_nn (g_mgmul (Ka := 210) (Kb := 160) (K := 244) ((g_mgcu _ _ _ _ _ hf).1) (g_mgi _) (by decide) (by decide)) (by decide)) ?_
  refine lv_fload hx hb dX1_unload_189 (lv_at hl 0 rfl) ?_
  refine lv_iload_n hx hb dX1_unload_191 rfl (lv_at hl 10 rfl) ?_
  refine lv_i2f hx hb dX1_unload_192 ?_
  refine lv_fmul hx hb dX1_unload_193 (g_nn (g_mgmul (Ka := 210) (Kb := 160) (K := 244) ((g_mgcu _ _ _ _ _ hf).2.2) (g_mgi _) (by decide) (by decide)) (by decide)) ?_
  refine lv_fsub hx hb dX1_unload_194 (g_nn (g_mgsub (Ka := 244) (Kb := 244) (K := 244) (g_mgmul (Ka := 210) (Kb := 160) (K := 244) ((g_mgcu _ _ _ _ _ hf).1) (g_mgi _) (by decide) (by decide)) (g_mgmul (Ka := 210) (Kb := 160) (K := 244) ((g_mgcu _ _ _ _ _ hf).2.2) (g_mgi _) (by decide) (by decide)) (by decide) (by decide) (by decide)) (by decide)) ?_
  refine lv_ldcf (v := 1115684864) hx hb hown (hts _ (List.mem_of_getElem? (i := 4) rfl)) dX1_unload_195 ?_
  refine lv_fdiv hx hb dX1_unload_197 (g_nn (g_mgdiv (K := 241) (L := 133) (g_mgsub (Ka := 244) (Kb := 244) (K := 244) (g_mgmul (Ka := 210) (Kb := 160) (K := 244) ((g_mgcu _ _ _ _ _ hf).1) (g_mgi _) (by decide) (by decide)) (g_mgmul (Ka := 210) (Kb := 160) (K := 244) ((g_mgcu _ _ _ _ _ hf).2.2) (g_mgi _) (by decide) (by decide)) (by decide) (by decide) (by decide)) (by decide) (by decide) (by decide) (by decide)) (by decide)) ?_
  refine lv_fload hx hb dX1_unload_198 (lv_at hl 1 rfl) ?_
  refine lv_iload_n hx hb dX1_unload_200 rfl (lv_at hl 10 rfl) ?_
  refine lv_i2f hx hb dX1_unload_201 ?_
  refine lv_fmul hx hb dX1_unload_202 (g_nn (g_mgmul (Ka := 210) (Kb := 160) (K := 244) ((g_mgcu _ _ _ _ _ hf).2.1) (g_mgi _) (by decide) (by decide)) (by decide)) ?_
  refine lv_fload hx hb dX1_unload_203 (lv_at hl 2 rfl) ?_
  refine lv_iload_n hx hb dX1_unload_205 rfl (lv_at hl 9 rfl) ?_
  refine lv_i2f hx hb dX1_unload_206 ?_
  refine lv_fmul hx hb dX1_unload_207 (g_nn (g_mgmul (Ka := 210) (Kb := 160) (K := 244) ((g_mgcu _ _ _ _ _ hf).1) (g_mgi _) (by decide) (by decide)) (by decide)) ?_
  refine lv_fsub hx hb dX1_unload_208 (g_nn (g_mgsub (Ka := 244) (Kb := 244) (K := 244) (g_mgmul (Ka := 210) (Kb := 160) (K := 244) ((g_mgcu _ _ _ _ _ hf).2.1) (g_mgi _) (by decide) (by decide)) (g_mgmul (Ka := 210) (Kb := 160) (K := 244) ((g_mgcu _ _ _ _ _ hf).1) (g_mgi _) (by decide) (by decide)) (by decide) (by decide) (by decide)) (by decide)) ?_
  refine lv_ldcf (v := 1115684864) hx hb hown (hts _ (List.mem_of_getElem? (i := 4) rfl)) dX1_unload_209 ?_
  refine lv_fdiv hx hb dX1_unload_211 (g_nn (g_mgdiv (K := 241) (L := 133) (g_mgsub (Ka := 244) (Kb := 244) (K := 244) (g_mgmul (Ka := 210) (Kb := 160) (K := 244) ((g_mgcu _ _ _ _ _ hf).2.1) (g_mgi _) (by decide) (by decide)) (g_mgmul (Ka := 210) (Kb := 160) (K := 244) ((g_mgcu _ _ _ _ _ hf).1) (g_mgi _) (by decide) (by decide)) (by decide) (by decide) (by decide)) (by decide) (by decide) (by decide) (by decide)) (by decide)) ?_
  refine g_cV (As := [.ref h, .float (FP.fdiv (FP.fsub (FP.fmul (cuW fl nf ck f t) (FP.i2f (cmF fl nf ck 1))) (FP.fmul (cuV fl nf ck f t) (FP.i2f (cmF fl nf ck 2)))) 1115684864), .float (FP.fdiv (FP.fsub (FP.fmul (cuU fl nf ck f t) (FP.i2f (cmF fl nf ck 2))) (FP.fmul (cuW fl nf ck f t) (FP.i2f (cmF fl nf ck 0)))) 1115684864), .float (FP.fdiv (FP.fsub (FP.fmul (cuV fl nf ck f t) (FP.i2f (cmF fl nf ck 0))) (FP.fmul (cuU fl nf ck f t) (FP.i2f (cmF fl nf ck 1)))) 1115684864)]) (n := 4) (rest := []) (wc := [(pl, .inr (1, [.ref fa, .int (nI nf), u2, u3, .ref ba, u5, u6, u7, u8, u9])), (h, .inr (4, [.ref hs, .ref ht, v2, .int (nI d), v4, v5, v6, v7, v8, v9, .int (nI ck)])), (ba, .inl (E 0, 12, .inl b)), (hs, .inl (E 1, 4, .inr (.inr (.inl f)))), (ht, .inl (E 0, 4, .inl t))]) (w1 := [(pl, .inr (1, [.ref fa, .int (nI nf), u2, u3, .ref ba, u5, u6, u7, u8, u9])), (h, .inr (4, [.ref hs, .ref ht, v2, .int (nI d), v4, v5, v6, v7, v8, v9, .int (nI ck)])), (ba, .inl (E 0, 12, .inl b)), (hs, .inl (E 1, 4, .inr (.inr (.inl (amP d (tuF b (FP.fdiv (FP.fsub (FP.fmul (cuW fl nf ck f t) (FP.i2f (cmF fl nf ck 1))) (FP.fmul (cuV fl nf ck f t) (FP.i2f (cmF fl nf ck 2)))) 1115684864) (FP.fdiv (FP.fsub (FP.fmul (cuU fl nf ck f t) (FP.i2f (cmF fl nf ck 2))) (FP.fmul (cuW fl nf ck f t) (FP.i2f (cmF fl nf ck 0)))) 1115684864) (FP.fdiv (FP.fsub (FP.fmul (cuV fl nf ck f t) (FP.i2f (cmF fl nf ck 0))) (FP.fmul (cuU fl nf ck f t) (FP.i2f (cmF fl nf ck 1)))) 1115684864) f (t 0)) f 4))))), (ht, .inl (E 0, 4, .inl t))]) (bytes := cX1_turn) (maxL := 7) (ret := none) hc hw hl.1 (m_X1_turn (l := l) (D := D) (E := E) (T := T) pl h (.ref fa) (.int (nI nf)) u2 u3 u5 u6 u7 u8 u9 v2 v4 v5 v6 v7 v8 v9 (.int (nI ck)) ba hs ht d b f t (FP.fdiv (FP.fsub (FP.fmul (cuW fl nf ck f t) (FP.i2f (cmF fl nf ck 1))) (FP.fmul (cuV fl nf ck f t) (FP.i2f (cmF fl nf ck 2)))) 1115684864) (FP.fdiv (FP.fsub (FP.fmul (cuU fl nf ck f t) (FP.i2f (cmF fl nf ck 2))) (FP.fmul (cuW fl nf ck f t) (FP.i2f (cmF fl nf ck 0)))) 1115684864) (FP.fdiv (FP.fsub (FP.fmul (cuV fl nf ck f t) (FP.i2f (cmF fl nf ck 0))) (FP.fmul (cuU fl nf ck f t) (FP.i2f (cmF fl nf ck 1)))) 1115684864) (by first | assumption | omega | decide) (by first | assumption | omega | decide) (by first | assumption | omega | decide) (g_mgW (K := 241) (g_mgdiv (K := 241) (L := 133) (g_mgsub (Ka := 244) (Kb := 244) (K := 244) (g_mgmul (Ka := 210) (Kb := 160) (K := 244) ((g_mgcu _ _ _ _ _ hf).2.2) (g_mgi _) (by decide) (by decide)) (g_mgmul (Ka := 210) (Kb := 160) (K := 244) ((g_mgcu _ _ _ _ _ hf).2.1) (g_mgi _) (by decide) (by decide)) (by decide) (by decide) (by decide)) (by decide) (by decide) (by decide) (by decide)) (by decide)) (g_mgW (K := 241) (g_mgdiv (K := 241) (L := 133) (g_mgsub (Ka := 244) (Kb := 244) (K := 244) (g_mgmul (Ka := 210) (Kb := 160) (K := 244) ((g_mgcu _ _ _ _ _ hf).1) (g_mgi _) (by decide) (by decide)) (g_mgmul (Ka := 210) (Kb := 160) (K := 244) ((g_mgcu _ _ _ _ _ hf).2.2) (g_mgi _) (by decide) (by decide)) (by decide) (by decide) (by decide)) (by decide) (by decide) (by decide) (by decide)) (by decide)) (g_mgW (K := 241) (g_mgdiv (K := 241) (L := 133) (g_mgsub (Ka := 244) (Kb := 244) (K := 244) (g_mgmul (Ka := 210) (Kb := 160) (K := 244) ((g_mgcu _ _ _ _ _ hf).2.1) (g_mgi _) (by decide) (by decide)) (g_mgmul (Ka := 210) (Kb := 160) (K := 244) ((g_mgcu _ _ _ _ _ hf).1) (g_mgi _) (by decide) (by decide)) (by decide) (by decide) (by decide)) (by decide) (by decide) (by decide) (by decide)) (by decide))) gX1_unload_X1_turn rfl (by decide +kernel) (by rw [hR]; exact ⟨Nat.le_of_ble_eq_true rfl, Nat.le_of_ble_eq_true rfl⟩) [0, 1, 3, 4, 5] 0 1 rfl rfl (by decide) rfl [pl, h, ba, hs, ht] rfl rfl rfl rfl (Nat.le_of_ble_eq_true rfl) dX1_unload_212 ⟨Nat.zero_le _, Nat.zero_le _⟩ (fun H locs hw => ?_)
  have hw : g_W D A s [(pl, .inr (1, [.ref fa, .int (nI nf), u2, u3, .ref ba, u5, u6, u7, u8, u9])), (h, .inr (4, [.ref hs, .ref ht, v2, .int (nI d), v4, v5, v6, v7, v8, v9, .int (nI ck)])), (fa, .inl (E 0, 18, .inl fl)), (ba, .inl (E 0, 12, .inl b)), (hs, .inl (E 1, 4, .inr (.inr (.inl (amP d (tuF b (FP.fdiv (FP.fsub (FP.fmul (cuW fl nf ck f t) (FP.i2f (cmF fl nf ck 1))) (FP.fmul (cuV fl nf ck f t) (FP.i2f (cmF fl nf ck 2)))) 1115684864) (FP.fdiv (FP.fsub (FP.fmul (cuU fl nf ck f t) (FP.i2f (cmF fl nf ck 2))) (FP.fmul (cuW fl nf ck f t) (FP.i2f (cmF fl nf ck 0)))) 1115684864) (FP.fdiv (FP.fsub (FP.fmul (cuV fl nf ck f t) (FP.i2f (cmF fl nf ck 0))) (FP.fmul (cuU fl nf ck f t) (FP.i2f (cmF fl nf ck 1)))) 1115684864) f (t 0)) f 4))))), (ht, .inl (E 0, 4, .inl t))] H locs := hw
  exact g_vret hQ hc hw hr rfl rfl dX1_unload_215
end P13d
