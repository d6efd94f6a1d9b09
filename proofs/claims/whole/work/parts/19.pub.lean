section P19
theorem dX5_fault_0 : decode cX5_fault 0 = .ok (.aload_n 0, 1) := by decide +kernel
theorem dX5_fault_1 : decode cX5_fault 1 = .ok (.getfield 10, 3) := by decide +kernel
theorem dX5_fault_4 : decode cX5_fault 4 = .ok (.invokevirtual 71, 3) := by decide +kernel
theorem dX5_fault_7 : decode cX5_fault 7 = .ok (.ireturn, 1) := by decide +kernel
set_option maxRecDepth 20000 in
theorem ggX5_fault_X2_faultAt : GoodIn wsX5_fault wsX2_faultAt := goodIn_r _ [5, 6, 7, 8, 9, 3, 10, 22, 23] rfl (by decide +kernel)
theorem inX5_fault_X5 : ∀ w ∈ u_ws RX5 TX5 11, w ∈ wsX5_fault := fun w h => List.mem_cons_of_mem _ (List.mem_append_left _ (List.mem_append_right _ h))
set_option maxRecDepth 100000 in
set_option maxHeartbeats 4000000 in
theorem m_X5_fault {l : Launch} {D : va_G} {E : Nat → ClassId} {T : Nat → Nat} (ob : Nat) (sc : Nat) (tx : Nat) (len : Nat) (z1 : Value) (z2 : Value) (z3 : Value) (z4 : Value) (z5 : Value) (z6 : Value) (z7 : Value) (z8 : Value) (z9 : Value) (z10 : Value) (tt : Nat → Nat) (hl9 : len ≤ 120) (ht9 : ∀ j, tt j < 256) : g_M l D E T yX5_fault wsX5_fault 2 45 [.ref ob] [(ob, .inr (5, [.ref sc, z1, z2, z3, z4, z5, z6, z7, z8, z9, z10])), (sc, .inr (2, [.ref tx, .int (nI len)])), (tx, .inl (E 2, 120, .inl (txF tt)))] [(ob, .inr (5, [.ref sc, z1, z2, z3, z4, z5, z6, z7, z8, z9, z10])), (sc, .inr (2, [.ref tx, .int (nI len)])), (tx, .inl (E 2, 120, .inl (txF tt)))] (some (.int (ftF tt len))) := by
  refine g_M.of (cc := cX5_fault) (nL := 1) (ret := (some .int)) (own := RX5) (lv := [(0, .ref ob)]) (by decide) rfl rfl (Nat.le_of_ble_eq_true rfl) rfl ?_
  intro p e R s m args below meth c A Q H locs ls hR hQ hc hr hw hl
  have hx := hc.1
  have hb := hc.2.1
  have hts := hc.2.2.2.1
  have hown := hc.2.2.2.2.1
  refine lv_aload_n hx hb dX5_fault_0 rfl (lv_at hl 0 rfl) ?_
  refine g_get (TT := TX5) hc hw inX5_fault_X5 0 0 1 rfl rfl (by decide) rfl rfl dX5_fault_1 ?_
  refine g_cVN (As := []) (n := 0) (rest := []) (wc := [(sc, .inr (2, [.ref tx, .int (nI len)])), (tx, .inl (E 2, 120, .inl (txF tt)))]) (w1 := [(sc, .inr (2, [.ref tx, .int (nI len)])), (tx, .inl (E 2, 120, .inl (txF tt)))]) (bytes := cX2_faultAt) (maxL := 5) (ret := (some .int)) hc hw hl.1 (m_X2_faultAt (l := l) (D := D) (E := E) (T := T) sc tx len tt (by first | assumption | omega | decide) (by first | assumption | omega | decide)) ggX5_fault_X2_faultAt rfl 48 rfl 3 2 4 rfl rfl rfl (by decide +kernel) (by rw [hR]; exact ⟨Nat.le_of_ble_eq_true rfl, Nat.le_of_ble_eq_true rfl⟩) [1, 2] 1 2 rfl rfl (by decide) rfl [sc, tx] rfl rfl rfl rfl (Nat.le_of_ble_eq_true rfl) dX5_fault_4 ⟨Nat.zero_le _, Nat.zero_le _⟩ (fun H locs hw => ?_)
  have hw : g_W D A s [(ob, .inr (5, [.ref sc, z1, z2, z3, z4, z5, z6, z7, z8, z9, z10])), (sc, .inr (2, [.ref tx, .int (nI len)])), (tx, .inl (E 2, 120, .inl (txF tt)))] H locs := hw
  exact g_iret hQ hc hw hr rfl rfl dX5_fault_7

theorem dX5_count_0 : decode cX5_count 0 = .ok (.iload_n 1, 1) := by decide +kernel
theorem dX5_count_1 : decode cX5_count 1 = .ok (.tableswitch 185 0 15 #[79, 87, 95, 103, 111, 119, 127, 135, 143, 151, 159, 159, 159, 159, 172, 180], 79) := by decide +kernel
theorem dX5_count_80 : decode cX5_count 80 = .ok (.aload_n 0, 1) := by decide +kernel
theorem dX5_count_81 : decode cX5_count 81 = .ok (.getfield 10, 3) := by decide +kernel
theorem dX5_count_84 : decode cX5_count 84 = .ok (.getfield 67, 3) := by decide +kernel
theorem dX5_count_87 : decode cX5_count 87 = .ok (.ireturn, 1) := by decide +kernel
theorem dX5_count_88 : decode cX5_count 88 = .ok (.aload_n 0, 1) := by decide +kernel
theorem dX5_count_89 : decode cX5_count 89 = .ok (.getfield 19, 3) := by decide +kernel
theorem dX5_count_92 : decode cX5_count 92 = .ok (.getfield 85, 3) := by decide +kernel
theorem dX5_count_95 : decode cX5_count 95 = .ok (.ireturn, 1) := by decide +kernel
theorem dX5_count_96 : decode cX5_count 96 = .ok (.aload_n 0, 1) := by decide +kernel
theorem dX5_count_97 : decode cX5_count 97 = .ok (.getfield 19, 3) := by decide +kernel
theorem dX5_count_100 : decode cX5_count 100 = .ok (.getfield 109, 3) := by decide +kernel
theorem dX5_count_103 : decode cX5_count 103 = .ok (.ireturn, 1) := by decide +kernel
theorem dX5_count_104 : decode cX5_count 104 = .ok (.aload_n 0, 1) := by decide +kernel
theorem dX5_count_105 : decode cX5_count 105 = .ok (.getfield 26, 3) := by decide +kernel
theorem dX5_count_108 : decode cX5_count 108 = .ok (.getfield 235, 3) := by decide +kernel
theorem dX5_count_111 : decode cX5_count 111 = .ok (.ireturn, 1) := by decide +kernel
theorem dX5_count_112 : decode cX5_count 112 = .ok (.aload_n 0, 1) := by decide +kernel
theorem dX5_count_113 : decode cX5_count 113 = .ok (.getfield 26, 3) := by decide +kernel
theorem dX5_count_116 : decode cX5_count 116 = .ok (.getfield 134, 3) := by decide +kernel
theorem dX5_count_119 : decode cX5_count 119 = .ok (.ireturn, 1) := by decide +kernel
theorem dX5_count_120 : decode cX5_count 120 = .ok (.aload_n 0, 1) := by decide +kernel
theorem dX5_count_121 : decode cX5_count 121 = .ok (.getfield 26, 3) := by decide +kernel
theorem dX5_count_124 : decode cX5_count 124 = .ok (.getfield 275, 3) := by decide +kernel
theorem dX5_count_127 : decode cX5_count 127 = .ok (.ireturn, 1) := by decide +kernel
theorem dX5_count_128 : decode cX5_count 128 = .ok (.aload_n 0, 1) := by decide +kernel
theorem dX5_count_129 : decode cX5_count 129 = .ok (.getfield 26, 3) := by decide +kernel
theorem dX5_count_132 : decode cX5_count 132 = .ok (.getfield 190, 3) := by decide +kernel
theorem dX5_count_135 : decode cX5_count 135 = .ok (.ireturn, 1) := by decide +kernel
theorem dX5_count_136 : decode cX5_count 136 = .ok (.aload_n 0, 1) := by decide +kernel
theorem dX5_count_137 : decode cX5_count 137 = .ok (.getfield 26, 3) := by decide +kernel
theorem dX5_count_140 : decode cX5_count 140 = .ok (.getfield 193, 3) := by decide +kernel
theorem dX5_count_143 : decode cX5_count 143 = .ok (.ireturn, 1) := by decide +kernel
theorem dX5_count_144 : decode cX5_count 144 = .ok (.aload_n 0, 1) := by decide +kernel
theorem dX5_count_145 : decode cX5_count 145 = .ok (.getfield 26, 3) := by decide +kernel
theorem dX5_count_148 : decode cX5_count 148 = .ok (.getfield 196, 3) := by decide +kernel
theorem dX5_count_151 : decode cX5_count 151 = .ok (.ireturn, 1) := by decide +kernel
theorem dX5_count_152 : decode cX5_count 152 = .ok (.aload_n 0, 1) := by decide +kernel
theorem dX5_count_153 : decode cX5_count 153 = .ok (.getfield 26, 3) := by decide +kernel
theorem dX5_count_156 : decode cX5_count 156 = .ok (.getfield 147, 3) := by decide +kernel
theorem dX5_count_159 : decode cX5_count 159 = .ok (.ireturn, 1) := by decide +kernel
theorem dX5_count_160 : decode cX5_count 160 = .ok (.aload_n 0, 1) := by decide +kernel
theorem dX5_count_161 : decode cX5_count 161 = .ok (.getfield 26, 3) := by decide +kernel
theorem dX5_count_164 : decode cX5_count 164 = .ok (.getfield 156, 3) := by decide +kernel
theorem dX5_count_167 : decode cX5_count 167 = .ok (.iload_n 1, 1) := by decide +kernel
theorem dX5_count_168 : decode cX5_count 168 = .ok (.bipush 10, 2) := by decide +kernel
theorem dX5_count_170 : decode cX5_count 170 = .ok (.isub, 1) := by decide +kernel
theorem dX5_count_171 : decode cX5_count 171 = .ok (.iaload, 1) := by decide +kernel
theorem dX5_count_172 : decode cX5_count 172 = .ok (.ireturn, 1) := by decide +kernel
theorem dX5_count_173 : decode cX5_count 173 = .ok (.aload_n 0, 1) := by decide +kernel
theorem dX5_count_174 : decode cX5_count 174 = .ok (.getfield 36, 3) := by decide +kernel
theorem dX5_count_177 : decode cX5_count 177 = .ok (.getfield 163, 3) := by decide +kernel
theorem dX5_count_180 : decode cX5_count 180 = .ok (.ireturn, 1) := by decide +kernel
theorem dX5_count_181 : decode cX5_count 181 = .ok (.aload_n 0, 1) := by decide +kernel
theorem dX5_count_182 : decode cX5_count 182 = .ok (.getfield 225, 3) := by decide +kernel
theorem dX5_count_185 : decode cX5_count 185 = .ok (.ireturn, 1) := by decide +kernel
theorem dX5_count_186 : decode cX5_count 186 = .ok (.bipush (-2), 2) := by decide +kernel
theorem dX5_count_188 : decode cX5_count 188 = .ok (.ireturn, 1) := by decide +kernel
theorem inX5_count_X0 : ∀ w ∈ u_ws RX0 TX0 3, w ∈ wsX5_count := fun w h => List.mem_cons_of_mem _ (List.mem_append_right _ h)
theorem inX5_count_X1 : ∀ w ∈ u_ws RX1 TX1 10, w ∈ wsX5_count := fun w h => List.mem_cons_of_mem _ (List.mem_append_left _ (List.mem_append_left _ (List.mem_append_right _ h)))
theorem inX5_count_X2 : ∀ w ∈ u_ws RX2 TX2 2, w ∈ wsX5_count := fun w h => List.mem_cons_of_mem _ (List.mem_append_left _ (List.mem_append_left _ (List.mem_append_left _ (List.mem_append_right _ h))))
theorem inX5_count_X4 : ∀ w ∈ u_ws RX4 TX4 11, w ∈ wsX5_count := fun w h => List.mem_cons_of_mem _ (List.mem_append_left _ (List.mem_append_right _ h))
theorem inX5_count_X5 : ∀ w ∈ u_ws RX5 TX5 11, w ∈ wsX5_count := fun w h => List.mem_cons_of_mem _ (List.mem_append_left _ (List.mem_append_left _ (List.mem_append_left _ (List.mem_append_left _ (List.mem_append_right _ h)))))
set_option maxRecDepth 100000 in
set_option maxHeartbeats 4000000 in
theorem m_X5_count {l : Launch} {D : va_G} {E : Nat → ClassId} {T : Nat → Nat} (ob : Nat) (sc : Nat) (tx : Nat) (len : Nat) (pl : Nat) (hi : Nat) (held : Nat) (cn : Nat) (nw : Nat) (nf : Nat) (z3 : Value) (z5 : Value) (z6 : Value) (z7 : Value) (z8 : Value) (z10 : Value) (u0 : Value) (u3 : Value) (u4 : Value) (u5 : Value) (u6 : Value) (u7 : Value) (u8 : Value) (u9 : Value) (h : Nat) (hs : Nat) (ht : Nat) (hq : Nat) (x0 : Value) (x2 : Value) (S : TS) (w : Int32)  : g_M l D E T yX5_count wsX5_count 0 0 [.ref ob, .int w] [(ob, .inr (5, [.ref sc, .ref pl, .ref h, z3, .ref hi, z5, z6, z7, z8, .int (nI cn), z10])), (sc, .inr (2, [.ref tx, .int (nI len)])), (hi, .inr (0, [x0, .int (nI held), x2])), (pl, .inr (1, [u0, .int (nI nf), .int (nI nw), u3, u4, u5, u6, u7, u8, u9])), (h, .inr (4, [.ref hs, .ref ht, .ref hq, .int (nI (sD S)), .int (sM S), .float (sP S), .int (sI S), .int (sC S), .int (sA S), .int (sR S), .int (nI (sK S))])), (hs, .inl (E 1, 4, .inr (.inr (.inl (sF S))))), (ht, .inl (E 0, 4, .inl (sT S)))] [(ob, .inr (5, [.ref sc, .ref pl, .ref h, z3, .ref hi, z5, z6, z7, z8, .int (nI cn), z10])), (sc, .inr (2, [.ref tx, .int (nI len)])), (hi, .inr (0, [x0, .int (nI held), x2])), (pl, .inr (1, [u0, .int (nI nf), .int (nI nw), u3, u4, u5, u6, u7, u8, u9])), (h, .inr (4, [.ref hs, .ref ht, .ref hq, .int (nI (sD S)), .int (sM S), .float (sP S), .int (sI S), .int (sC S), .int (sA S), .int (sR S), .int (nI (sK S))])), (hs, .inl (E 1, 4, .inr (.inr (.inl (sF S))))), (ht, .inl (E 0, 4, .inl (sT S)))] (some (.int (cnF len nw nf held cn S w))) := by
  refine g_M.of (cc := cX5_count) (nL := 2) (ret := (some .int)) (own := RX5) (lv := [(0, .ref ob), (1, .int w)]) (by decide) rfl rfl (Nat.le_of_ble_eq_true rfl) rfl ?_
  intro p e R s m args below meth c A Q H locs ls hR hQ hc hr hw hl
  have hx := hc.1
  have hb := hc.2.1
  have hts := hc.2.2.2.1
  have hown := hc.2.2.2.2.1
  refine lv_iload_n hx hb dX5_count_0 rfl (lv_at hl 1 rfl) ?_
  by_cases y_0 : w = 0
  · skip
    refine lv_tableIn (off := 79) (tgt := 80) hx hb dX5_count_1 (by rw [y_0]; decide) (by rw [y_0]; decide) (by rw [y_0]; rfl) (by decide) ?_
    refine lv_aload_n hx hb dX5_count_80 rfl (lv_at hl 0 rfl) ?_
    refine g_get (TT := TX5) hc hw inX5_count_X5 0 0 1 rfl rfl (by decide) rfl rfl dX5_count_81 ?_
    refine g_getN (TT := TX2) hc hw inX5_count_X2 1 1 1 rfl rfl (by decide) rfl rfl dX5_count_84 ?_
    exact g_iret hQ hc hw hr (by exact congrArg (fun z => some (Value.int z)) (by unfold cnF; simp only [if_pos y_0])) rfl dX5_count_87
  by_cases y_1 : w = 1
  · skip
    refine lv_tableIn (off := 87) (tgt := 88) hx hb dX5_count_1 (by rw [y_1]; decide) (by rw [y_1]; decide) (by rw [y_1]; rfl) (by decide) ?_
    refine lv_aload_n hx hb dX5_count_88 rfl (lv_at hl 0 rfl) ?_
    refine g_get (TT := TX5) hc hw inX5_count_X5 0 1 2 rfl rfl (by decide) rfl rfl dX5_count_89 ?_
    refine g_getN (TT := TX1) hc hw inX5_count_X1 3 2 8 rfl rfl (by decide) rfl rfl dX5_count_92 ?_
    exact g_iret hQ hc hw hr (by exact congrArg (fun z => some (Value.int z)) (by unfold cnF; simp only [if_neg y_0, if_pos y_1])) rfl dX5_count_95
  by_cases y_2 : w = 2
  · skip
    refine lv_tableIn (off := 95) (tgt := 96) hx hb dX5_count_1 (by rw [y_2]; decide) (by rw [y_2]; decide) (by rw [y_2]; rfl) (by decide) ?_
    refine lv_aload_n hx hb dX5_count_96 rfl (lv_at hl 0 rfl) ?_
    refine g_get (TT := TX5) hc hw inX5_count_X5 0 1 2 rfl rfl (by decide) rfl rfl dX5_count_97 ?_
    refine g_getN (TT := TX1) hc hw inX5_count_X1 3 1 6 rfl rfl (by decide) rfl rfl dX5_count_100 ?_
    exact g_iret hQ hc hw hr (by exact congrArg (fun z => some (Value.int z)) (by unfold cnF; simp only [if_neg y_0, if_neg y_1, if_pos y_2])) rfl dX5_count_103
  by_cases y_3 : w = 3
  · skip
    refine lv_tableIn (off := 103) (tgt := 104) hx hb dX5_count_1 (by rw [y_3]; decide) (by rw [y_3]; decide) (by rw [y_3]; rfl) (by decide) ?_
    refine lv_aload_n hx hb dX5_count_104 rfl (lv_at hl 0 rfl) ?_
    refine g_get (TT := TX5) hc hw inX5_count_X5 0 2 3 rfl rfl (by decide) rfl rfl dX5_count_105 ?_
    refine g_getN (TT := TX4) hc hw inX5_count_X4 4 3 25 rfl rfl (by decide) rfl rfl dX5_count_108 ?_
    exact g_iret hQ hc hw hr (by exact congrArg (fun z => some (Value.int z)) (by unfold cnF; simp only [if_neg y_0, if_neg y_1, if_neg y_2, if_pos y_3])) rfl dX5_count_111
  by_cases y_4 : w = 4
  · skip
    refine lv_tableIn (off := 111) (tgt := 112) hx hb dX5_count_1 (by rw [y_4]; decide) (by rw [y_4]; decide) (by rw [y_4]; rfl) (by decide) ?_
    refine lv_aload_n hx hb dX5_count_112 rfl (lv_at hl 0 rfl) ?_
    refine g_get (TT := TX5) hc hw inX5_count_X5 0 2 3 rfl rfl (by decide) rfl rfl dX5_count_113 ?_
    refine g_getN (TT := TX4) hc hw inX5_count_X4 4 4 28 rfl rfl (by decide) rfl rfl dX5_count_116 ?_
    exact g_iret hQ hc hw hr (by exact congrArg (fun z => some (Value.int z)) (by unfold cnF; simp only [if_neg y_0, if_neg y_1, if_neg y_2, if_neg y_3, if_pos y_4])) rfl dX5_count_119
  by_cases y_5 : w = 5
  · skip
    refine lv_tableIn (off := 119) (tgt := 120) hx hb dX5_count_1 (by rw [y_5]; decide) (by rw [y_5]; decide) (by rw [y_5]; rfl) (by decide) ?_
    refine lv_aload_n hx hb dX5_count_120 rfl (lv_at hl 0 rfl) ?_
    refine g_get (TT := TX5) hc hw inX5_count_X5 0 2 3 rfl rfl (by decide) rfl rfl dX5_count_121 ?_
    refine g_getN (TT := TX4) hc hw inX5_count_X4 4 10 41 rfl rfl (by decide) rfl rfl dX5_count_124 ?_
    exact g_iret hQ hc hw hr (by exact congrArg (fun z => some (Value.int z)) (by unfold cnF; simp only [if_neg y_0, if_neg y_1, if_neg y_2, if_neg y_3, if_neg y_4, if_pos y_5])) rfl dX5_count_127
  by_cases y_6 : w = 6
  · skip
    refine lv_tableIn (off := 127) (tgt := 128) hx hb dX5_count_1 (by rw [y_6]; decide) (by rw [y_6]; decide) (by rw [y_6]; rfl) (by decide) ?_
    refine lv_aload_n hx hb dX5_count_128 rfl (lv_at hl 0 rfl) ?_
    refine g_get (TT := TX5) hc hw inX5_count_X5 0 2 3 rfl rfl (by decide) rfl rfl dX5_count_129 ?_
    refine g_getN (TT := TX4) hc hw inX5_count_X4 4 6 33 rfl rfl (by decide) rfl rfl dX5_count_132 ?_
    exact g_iret hQ hc hw hr (by exact congrArg (fun z => some (Value.int z)) (by unfold cnF; simp only [if_neg y_0, if_neg y_1, if_neg y_2, if_neg y_3, if_neg y_4, if_neg y_5, if_pos y_6])) rfl dX5_count_135
  by_cases y_7 : w = 7
  · skip
    refine lv_tableIn (off := 135) (tgt := 136) hx hb dX5_count_1 (by rw [y_7]; decide) (by rw [y_7]; decide) (by rw [y_7]; rfl) (by decide) ?_
    refine lv_aload_n hx hb dX5_count_136 rfl (lv_at hl 0 rfl) ?_
    refine g_get (TT := TX5) hc hw inX5_count_X5 0 2 3 rfl rfl (by decide) rfl rfl dX5_count_137 ?_
    refine g_getN (TT := TX4) hc hw inX5_count_X4 4 7 35 rfl rfl (by decide) rfl rfl dX5_count_140 ?_
    exact g_iret hQ hc hw hr (by exact congrArg (fun z => some (Value.int z)) (by unfold cnF; simp only [if_neg y_0, if_neg y_1, if_neg y_2, if_neg y_3, if_neg y_4, if_neg y_5, if_neg y_6, if_pos y_7])) rfl dX5_count_143
  by_cases y_8 : w = 8
  · skip
    refine lv_tableIn (off := 143) (tgt := 144) hx hb dX5_count_1 (by rw [y_8]; decide) (by rw [y_8]; decide) (by rw [y_8]; rfl) (by decide) ?_
    refine lv_aload_n hx hb dX5_count_144 rfl (lv_at hl 0 rfl) ?_
    refine g_get (TT := TX5) hc hw inX5_count_X5 0 2 3 rfl rfl (by decide) rfl rfl dX5_count_145 ?_
    refine g_getN (TT := TX4) hc hw inX5_count_X4 4 8 37 rfl rfl (by decide) rfl rfl dX5_count_148 ?_
    exact g_iret hQ hc hw hr (by exact congrArg (fun z => some (Value.int z)) (by unfold cnF; simp only [if_neg y_0, if_neg y_1, if_neg y_2, if_neg y_3, if_neg y_4, if_neg y_5, if_neg y_6, if_neg y_7, if_pos y_8])) rfl dX5_count_151
  by_cases y_9 : w = 9
  · skip
    refine lv_tableIn (off := 151) (tgt := 152) hx hb dX5_count_1 (by rw [y_9]; decide) (by rw [y_9]; decide) (by rw [y_9]; rfl) (by decide) ?_
    refine lv_aload_n hx hb dX5_count_152 rfl (lv_at hl 0 rfl) ?_
    refine g_get (TT := TX5) hc hw inX5_count_X5 0 2 3 rfl rfl (by decide) rfl rfl dX5_count_153 ?_
    refine g_getN (TT := TX4) hc hw inX5_count_X4 4 9 39 rfl rfl (by decide) rfl rfl dX5_count_156 ?_
    exact g_iret hQ hc hw hr (by exact congrArg (fun z => some (Value.int z)) (by unfold cnF; simp only [if_neg y_0, if_neg y_1, if_neg y_2, if_neg y_3, if_neg y_4, if_neg y_5, if_neg y_6, if_neg y_7, if_neg y_8, if_pos y_9])) rfl dX5_count_159
  by_cases y_10 : w = 10
  · skip
    refine lv_tableIn (off := 159) (tgt := 160) hx hb dX5_count_1 (by rw [y_10]; decide) (by rw [y_10]; decide) (by rw [y_10]; rfl) (by decide) ?_
    refine lv_aload_n hx hb dX5_count_160 rfl (lv_at hl 0 rfl) ?_
    refine g_get (TT := TX5) hc hw inX5_count_X5 0 2 3 rfl rfl (by decide) rfl rfl dX5_count_161 ?_
    refine g_getN (TT := TX4) hc hw inX5_count_X4 4 1 20 rfl rfl (by decide) rfl rfl dX5_count_164 ?_
    refine lv_iload_n hx hb dX5_count_167 rfl (lv_at hl 1 rfl) ?_
    refine lv_bipush (v := 10) hx hb dX5_count_168 (by decide) ?_
    refine lv_isub hx hb dX5_count_170 ?_
    refine g_ild hc hw 6 0 rfl (by rw [y_10]; decide) (by decide) (by decide) dX5_count_171 ?_
    exact g_iret hQ hc hw hr (by exact congrArg (fun z => some (Value.int z)) (by unfold cnF; simp only [if_neg y_0, if_neg y_1, if_neg y_2, if_neg y_3, if_neg y_4, if_neg y_5, if_neg y_6, if_neg y_7, if_neg y_8, if_neg y_9, if_pos y_10])) rfl dX5_count_172
  by_cases y_11 : w = 11
  · skip
    refine lv_tableIn (off := 159) (tgt := 160) hx hb dX5_count_1 (by rw [y_11]; decide) (by rw [y_11]; decide) (by rw [y_11]; rfl) (by decide) ?_
    refine lv_aload_n hx hb dX5_count_160 rfl (lv_at hl 0 rfl) ?_
    refine g_get (TT := TX5) hc hw inX5_count_X5 0 2 3 rfl rfl (by decide) rfl rfl dX5_count_161 ?_
    refine g_getN (TT := TX4) hc hw inX5_count_X4 4 1 20 rfl rfl (by decide) rfl rfl dX5_count_164 ?_
    refine lv_iload_n hx hb dX5_count_167 rfl (lv_at hl 1 rfl) ?_
    refine lv_bipush (v := 10) hx hb dX5_count_168 (by decide) ?_
    refine lv_isub hx hb dX5_count_170 ?_
    refine g_ild hc hw 6 1 rfl (by rw [y_11]; decide) (by decide) (by decide) dX5_count_171 ?_
    exact g_iret hQ hc hw hr (by exact congrArg (fun z => some (Value.int z)) (by unfold cnF; simp only [if_neg y_0, if_neg y_1, if_neg y_2, if_neg y_3, if_neg y_4, if_neg y_5, if_neg y_6, if_neg y_7, if_neg y_8, if_neg y_9, if_neg y_10, if_pos y_11])) rfl dX5_count_172
  by_cases y_12 : w = 12
  · skip
    refine lv_tableIn (off := 159) (tgt := 160) hx hb dX5_count_1 (by rw [y_12]; decide) (by rw [y_12]; decide) (by rw [y_12]; rfl) (by decide) ?_
    refine lv_aload_n hx hb dX5_count_160 rfl (lv_at hl 0 rfl) ?_
    refine g_get (TT := TX5) hc hw inX5_count_X5 0 2 3 rfl rfl (by decide) rfl rfl dX5_count_161 ?_
    refine g_getN (TT := TX4) hc hw inX5_count_X4 4 1 20 rfl rfl (by decide) rfl rfl dX5_count_164 ?_
    refine lv_iload_n hx hb dX5_count_167 rfl (lv_at hl 1 rfl) ?_
    refine lv_bipush (v := 10) hx hb dX5_count_168 (by decide) ?_
    refine lv_isub hx hb dX5_count_170 ?_
    refine g_ild hc hw 6 2 rfl (by rw [y_12]; decide) (by decide) (by decide) dX5_count_171 ?_
    exact g_iret hQ hc hw hr (by exact congrArg (fun z => some (Value.int z)) (by unfold cnF; simp only [if_neg y_0, if_neg y_1, if_neg y_2, if_neg y_3, if_neg y_4, if_neg y_5, if_neg y_6, if_neg y_7, if_neg y_8, if_neg y_9, if_neg y_10, if_neg y_11, if_pos y_12])) rfl dX5_count_172
  by_cases y_13 : w = 13
  · skip
    refine lv_tableIn (off := 159) (tgt := 160) hx hb dX5_count_1 (by rw [y_13]; decide) (by rw [y_13]; decide) (by rw [y_13]; rfl) (by decide) ?_
    refine lv_aload_n hx hb dX5_count_160 rfl (lv_at hl 0 rfl) ?_
    refine g_get (TT := TX5) hc hw inX5_count_X5 0 2 3 rfl rfl (by decide) rfl rfl dX5_count_161 ?_
    refine g_getN (TT := TX4) hc hw inX5_count_X4 4 1 20 rfl rfl (by decide) rfl rfl dX5_count_164 ?_
    refine lv_iload_n hx hb dX5_count_167 rfl (lv_at hl 1 rfl) ?_
    refine lv_bipush (v := 10) hx hb dX5_count_168 (by decide) ?_
    refine lv_isub hx hb dX5_count_170 ?_
    refine g_ild hc hw 6 3 rfl (by rw [y_13]; decide) (by decide) (by decide) dX5_count_171 ?_
    exact g_iret hQ hc hw hr (by exact congrArg (fun z => some (Value.int z)) (by unfold cnF; simp only [if_neg y_0, if_neg y_1, if_neg y_2, if_neg y_3, if_neg y_4, if_neg y_5, if_neg y_6, if_neg y_7, if_neg y_8, if_neg y_9, if_neg y_10, if_neg y_11, if_neg y_12, if_pos y_13])) rfl dX5_count_172
  by_cases y_14 : w = 14
  · skip
    refine lv_tableIn (off := 172) (tgt := 173) hx hb dX5_count_1 (by rw [y_14]; decide) (by rw [y_14]; decide) (by rw [y_14]; rfl) (by decide) ?_
    refine lv_aload_n hx hb dX5_count_173 rfl (lv_at hl 0 rfl) ?_
    refine g_get (TT := TX5) hc hw inX5_count_X5 0 4 4 rfl rfl (by decide) rfl rfl dX5_count_174 ?_
    refine g_getN (TT := TX0) hc hw inX5_count_X0 2 1 44 rfl rfl (by decide) rfl rfl dX5_count_177 ?_
    exact g_iret hQ hc hw hr (by exact congrArg (fun z => some (Value.int z)) (by unfold cnF; simp only [if_neg y_0, if_neg y_1, if_neg y_2, if_neg y_3, if_neg y_4, if_neg y_5, if_neg y_6, if_neg y_7, if_neg y_8, if_neg y_9, if_neg y_10, if_neg y_11, if_neg y_12, if_neg y_13, if_pos y_14])) rfl dX5_count_180
  by_cases y_15 : w = 15
  · skip
    refine lv_tableIn (off := 180) (tgt := 181) hx hb dX5_count_1 (by rw [y_15]; decide) (by rw [y_15]; decide) (by rw [y_15]; rfl) (by decide) ?_
    refine lv_aload_n hx hb dX5_count_181 rfl (lv_at hl 0 rfl) ?_
    refine g_get (TT := TX5) hc hw inX5_count_X5 0 9 5 rfl rfl (by decide) rfl rfl dX5_count_182 ?_
    exact g_iret hQ hc hw hr (by exact congrArg (fun z => some (Value.int z)) (by unfold cnF; simp only [if_neg y_0, if_neg y_1, if_neg y_2, if_neg y_3, if_neg y_4, if_neg y_5, if_neg y_6, if_neg y_7, if_neg y_8, if_neg y_9, if_neg y_10, if_neg y_11, if_neg y_12, if_neg y_13, if_neg y_14, if_pos y_15])) rfl dX5_count_185
  have z_0 := lv_neT (a := 0) y_0 (by decide)
  have z_1 := lv_neT (a := 1) y_1 (by decide)
  have z_2 := lv_neT (a := 2) y_2 (by decide)
  have z_3 := lv_neT (a := 3) y_3 (by decide)
  have z_4 := lv_neT (a := 4) y_4 (by decide)
  have z_5 := lv_neT (a := 5) y_5 (by decide)
  have z_6 := lv_neT (a := 6) y_6 (by decide)
  have z_7 := lv_neT (a := 7) y_7 (by decide)
  have z_8 := lv_neT (a := 8) y_8 (by decide)
  have z_9 := lv_neT (a := 9) y_9 (by decide)
  have z_10 := lv_neT (a := 10) y_10 (by decide)
  have z_11 := lv_neT (a := 11) y_11 (by decide)
  have z_12 := lv_neT (a := 12) y_12 (by decide)
  have z_13 := lv_neT (a := 13) y_13 (by decide)
  have z_14 := lv_neT (a := 14) y_14 (by decide)
  have z_15 := lv_neT (a := 15) y_15 (by decide)
  refine lv_tableOut (tgt := 186) hx hb dX5_count_1 (by omega) (by decide) ?_
  refine lv_bipush (v := (-2)) hx hb dX5_count_186 (by decide) ?_
  exact g_iret hQ hc hw hr (by exact congrArg (fun z => some (Value.int z)) (by unfold cnF; simp only [if_neg y_0, if_neg y_1, if_neg y_2, if_neg y_3, if_neg y_4, if_neg y_5, if_neg y_6, if_neg y_7, if_neg y_8, if_neg y_9, if_neg y_10, if_neg y_11, if_neg y_12, if_neg y_13, if_neg y_14, if_neg y_15])) rfl dX5_count_188

theorem dX5_wheel_0 : decode cX5_wheel 0 = .ok (.iload_n 1, 1) := by decide +kernel
theorem dX5_wheel_1 : decode cX5_wheel 1 = .ok (.invokestatic 88, 3) := by decide +kernel
theorem dX5_wheel_4 : decode cX5_wheel 4 = .ok (.ifCond .eq 5, 3) := by decide +kernel
theorem dX5_wheel_7 : decode cX5_wheel 7 = .ok (.iconst (-1), 1) := by decide +kernel
theorem dX5_wheel_8 : decode cX5_wheel 8 = .ok (.ireturn, 1) := by decide +kernel
set_option maxRecDepth 20000 in
theorem ggX5_wheel_X5_noWheel : GoodIn wsX5_wheel wsX5_noWheel := goodIn_r _ [6, 7, 8, 5, 9] rfl (by decide +kernel)
set_option maxRecDepth 20000 in
theorem gX5_wheel_X5_noWheel : GoodIn wsX5_wheel (va_wsS RX5 88 yX5_noWheel wsX5_noWheel) := goodIn_app (goodIn_of _ (by decide +kernel)) ggX5_wheel_X5_noWheel
set_option maxRecDepth 100000 in
set_option maxHeartbeats 4000000 in
theorem m_X5_wheel_out {l : Launch} {D : va_G} {E : Nat → ClassId} {T : Nat → Nat} (ob : Nat) (z0 : Value) (z1 : Value) (z2 : Value) (z3 : Value) (z4 : Value) (z5 : Value) (z6 : Value) (z7 : Value) (z8 : Value) (z9 : Value) (z10 : Value) (v : Int32) (w : Int32) (ho : outB v 0 3 = true) : g_M l D E T yX5_wheel wsX5_wheel 2 42 [.ref ob, .int v, .int w] [(ob, .inr (5, [z0, z1, z2, z3, z4, z5, z6, z7, z8, z9, z10]))] [(ob, .inr (5, [z0, z1, z2, z3, z4, z5, z6, z7, z8, z9, z10]))] (some (.int (-1))) := by
  refine g_M.of (cc := cX5_wheel) (nL := 3) (ret := (some .int)) (own := RX5) (lv := [(0, .ref ob), (1, .int v), (2, .int w)]) (by decide) rfl rfl (Nat.le_of_ble_eq_true rfl) rfl ?_
  intro p e R s m args below meth c A Q H locs ls hR hQ hc hr hw hl
  have hx := hc.1
  have hb := hc.2.1
  have hts := hc.2.2.2.1
  have hown := hc.2.2.2.2.1
  refine lv_iload_n hx hb dX5_wheel_0 rfl (lv_at hl 1 rfl) ?_
  refine g_cS (As := [.int v]) (n := 1) (rest := []) (wc := []) (w1 := []) (bytes := cX5_noWheel) (maxL := 1) (ret := (some .boolean)) hc hw hl.1 (m_X5_noWheel (l := l) (D := D) (E := E) (T := T) v) gX5_wheel_X5_noWheel rfl (by decide +kernel) (by rw [hR]; exact ⟨Nat.le_of_ble_eq_true rfl, Nat.le_of_ble_eq_true rfl⟩) [] (by decide) rfl [] rfl rfl rfl rfl (Nat.le_of_ble_eq_true rfl) dX5_wheel_1 ⟨Nat.zero_le _, Nat.zero_le _⟩ (fun H locs hw => ?_)
  have hw : g_W D A s [(ob, .inr (5, [z0, z1, z2, z3, z4, z5, z6, z7, z8, z9, z10]))] H locs := hw
  refine W.eq (congrArg (fun z => F0 m 4 ls (.int z :: [])) (show (b2i (outB v 0 3) : Int32) = 1 from (congrArg b2i ho))) ?_
  refine lv_if_eq (tgt := 9) hx hb dX5_wheel_4 (by decide) (fun c_4 => absurd c_4 (by decide)) (fun c_4 => ?_)
  refine lv_iconst (v := (-1)) hx hb dX5_wheel_7 (by decide) ?_
  exact g_iret hQ hc hw hr rfl rfl dX5_wheel_8

theorem dX5_wheel_9 : decode cX5_wheel 9 = .ok (.iload_n 2, 1) := by decide +kernel
theorem dX5_wheel_10 : decode cX5_wheel 10 = .ok (.tableswitch 93 0 5 #[38, 51, 64, 81, 81, 81], 38) := by decide +kernel
theorem dX5_wheel_48 : decode cX5_wheel 48 = .ok (.aload_n 0, 1) := by decide +kernel
theorem dX5_wheel_49 : decode cX5_wheel 49 = .ok (.getfield 26, 3) := by decide +kernel
theorem dX5_wheel_52 : decode cX5_wheel 52 = .ok (.getfield 92, 3) := by decide +kernel
theorem dX5_wheel_55 : decode cX5_wheel 55 = .ok (.iload_n 1, 1) := by decide +kernel
theorem dX5_wheel_56 : decode cX5_wheel 56 = .ok (.faload, 1) := by decide +kernel
theorem dX5_wheel_57 : decode cX5_wheel 57 = .ok (.invokestatic 96, 3) := by decide +kernel
theorem dX5_wheel_60 : decode cX5_wheel 60 = .ok (.ireturn, 1) := by decide +kernel
theorem dX5_wheel_61 : decode cX5_wheel 61 = .ok (.aload_n 0, 1) := by decide +kernel
theorem dX5_wheel_62 : decode cX5_wheel 62 = .ok (.getfield 26, 3) := by decide +kernel
theorem dX5_wheel_65 : decode cX5_wheel 65 = .ok (.getfield 92, 3) := by decide +kernel
theorem dX5_wheel_68 : decode cX5_wheel 68 = .ok (.iload_n 1, 1) := by decide +kernel
theorem dX5_wheel_69 : decode cX5_wheel 69 = .ok (.faload, 1) := by decide +kernel
theorem dX5_wheel_70 : decode cX5_wheel 70 = .ok (.invokestatic 100, 3) := by decide +kernel
theorem dX5_wheel_73 : decode cX5_wheel 73 = .ok (.ireturn, 1) := by decide +kernel
theorem dX5_wheel_74 : decode cX5_wheel 74 = .ok (.aload_n 0, 1) := by decide +kernel
theorem dX5_wheel_75 : decode cX5_wheel 75 = .ok (.getfield 26, 3) := by decide +kernel
theorem dX5_wheel_78 : decode cX5_wheel 78 = .ok (.iload_n 1, 1) := by decide +kernel
theorem dX5_wheel_79 : decode cX5_wheel 79 = .ok (.invokevirtual 103, 3) := by decide +kernel
theorem dX5_wheel_82 : decode cX5_wheel 82 = .ok (.ifCond .eq 7, 3) := by decide +kernel
theorem dX5_wheel_85 : decode cX5_wheel 85 = .ok (.iconst 1, 1) := by decide +kernel
theorem dX5_wheel_86 : decode cX5_wheel 86 = .ok (.goto 4, 3) := by decide +kernel
theorem dX5_wheel_89 : decode cX5_wheel 89 = .ok (.iconst 0, 1) := by decide +kernel
theorem dX5_wheel_90 : decode cX5_wheel 90 = .ok (.ireturn, 1) := by decide +kernel
theorem dX5_wheel_91 : decode cX5_wheel 91 = .ok (.getstatic 106, 3) := by decide +kernel
theorem dX5_wheel_94 : decode cX5_wheel 94 = .ok (.iload_n 1, 1) := by decide +kernel
theorem dX5_wheel_95 : decode cX5_wheel 95 = .ok (.iconst 3, 1) := by decide +kernel
theorem dX5_wheel_96 : decode cX5_wheel 96 = .ok (.imul, 1) := by decide +kernel
theorem dX5_wheel_97 : decode cX5_wheel 97 = .ok (.iload_n 2, 1) := by decide +kernel
theorem dX5_wheel_98 : decode cX5_wheel 98 = .ok (.iadd, 1) := by decide +kernel
theorem dX5_wheel_99 : decode cX5_wheel 99 = .ok (.iconst 3, 1) := by decide +kernel
theorem dX5_wheel_100 : decode cX5_wheel 100 = .ok (.isub, 1) := by decide +kernel
theorem dX5_wheel_101 : decode cX5_wheel 101 = .ok (.iaload, 1) := by decide +kernel
theorem dX5_wheel_102 : decode cX5_wheel 102 = .ok (.ireturn, 1) := by decide +kernel
theorem dX5_wheel_103 : decode cX5_wheel 103 = .ok (.bipush (-2), 2) := by decide +kernel
theorem dX5_wheel_105 : decode cX5_wheel 105 = .ok (.ireturn, 1) := by decide +kernel
set_option maxRecDepth 20000 in
theorem ggX5_wheel_X5_bitsOf : GoodIn wsX5_wheel wsX5_bitsOf := goodIn_r _ [12, 13, 14, 15, 16, 5, 17] rfl (by decide +kernel)
set_option maxRecDepth 20000 in
theorem gX5_wheel_X5_bitsOf : GoodIn wsX5_wheel (va_wsS RX5 96 yX5_bitsOf wsX5_bitsOf) := goodIn_app (goodIn_of _ (by decide +kernel)) ggX5_wheel_X5_bitsOf
set_option maxRecDepth 20000 in
theorem ggX5_wheel_X5_thousandthsOf : GoodIn wsX5_wheel wsX5_thousandthsOf := goodIn_r _ [20, 21] rfl (by decide +kernel)
set_option maxRecDepth 20000 in
theorem gX5_wheel_X5_thousandthsOf : GoodIn wsX5_wheel (va_wsS RX5 100 yX5_thousandthsOf wsX5_thousandthsOf) := goodIn_app (goodIn_of _ (by decide +kernel)) ggX5_wheel_X5_thousandthsOf
set_option maxRecDepth 20000 in
theorem ggX5_wheel_X4_isDead : GoodIn wsX5_wheel wsX4_isDead := goodIn_r _ [25, 26, 38, 39, 40, 41, 42, 43, 44, 45, 46, 47, 48] rfl (by decide +kernel)
theorem inX5_wheel_X4 : ∀ w ∈ u_ws RX4 TX4 11, w ∈ wsX5_wheel := fun w h => List.mem_cons_of_mem _ (List.mem_append_right _ h)
theorem inX5_wheel_X5 : ∀ w ∈ u_ws RX5 TX5 11, w ∈ wsX5_wheel := fun w h => List.mem_cons_of_mem _ (List.mem_append_left _ (List.mem_append_right _ h))
set_option maxRecDepth 100000 in
set_option maxHeartbeats 4000000 in
theorem m_X5_wheel {l : Launch} {D : va_G} {E : Nat → ClassId} {T : Nat → Nat} (ob : Nat) (h : Nat) (hs : Nat) (ht : Nat) (hq : Nat) (n : Nat) (B : Nat) (z0 : Value) (z1 : Value) (z3 : Value) (z4 : Value) (z5 : Value) (z6 : Value) (z7 : Value) (z8 : Value) (z9 : Value) (z10 : Value) (S : TS) (w : Int32) (hn : n ≤ 3) (hok : OkS B S) : g_M l D E T yX5_wheel wsX5_wheel 2 43 [.ref ob, .int (nI n), .int w] [(ob, .inr (5, [z0, z1, .ref h, z3, z4, z5, z6, z7, z8, z9, z10])), (h, .inr (4, [.ref hs, .ref ht, .ref hq, .int (nI (sD S)), .int (sM S), .float (sP S), .int (sI S), .int (sC S), .int (sA S), .int (sR S), .int (nI (sK S))])), (hs, .inl (E 1, 4, .inr (.inr (.inl (sF S))))), (ht, .inl (E 0, 4, .inl (sT S))), (hq, .inl (E 0, 18, .inl (sW S)))] [(ob, .inr (5, [z0, z1, .ref h, z3, z4, z5, z6, z7, z8, z9, z10])), (h, .inr (4, [.ref hs, .ref ht, .ref hq, .int (nI (sD S)), .int (sM S), .float (sP S), .int (sI S), .int (sC S), .int (sA S), .int (sR S), .int (nI (sK S))])), (hs, .inl (E 1, 4, .inr (.inr (.inl (sF S))))), (ht, .inl (E 0, 4, .inl (sT S))), (hq, .inl (E 0, 18, .inl (sW S)))] (some (.int (whF S n w))) := by
  refine g_M.of (cc := cX5_wheel) (nL := 3) (ret := (some .int)) (own := RX5) (lv := [(0, .ref ob), (1, .int (nI n)), (2, .int w)]) (by decide) rfl rfl (Nat.le_of_ble_eq_true rfl) rfl ?_
  intro p e R s m args below meth c A Q H locs ls hR hQ hc hr hw hl
  have hx := hc.1
  have hb := hc.2.1
  have hts := hc.2.2.2.1
  have hown := hc.2.2.2.2.1
  refine lv_iload_n hx hb dX5_wheel_0 rfl (lv_at hl 1 rfl) ?_
  refine g_cS (As := [.int (nI n)]) (n := 1) (rest := []) (wc := []) (w1 := []) (bytes := cX5_noWheel) (maxL := 1) (ret := (some .boolean)) hc hw hl.1 (m_X5_noWheel (l := l) (D := D) (E := E) (T := T) (nI n)) gX5_wheel_X5_noWheel rfl (by decide +kernel) (by rw [hR]; exact ⟨Nat.le_of_ble_eq_true rfl, Nat.le_of_ble_eq_true rfl⟩) [] (by decide) rfl [] rfl rfl rfl rfl (Nat.le_of_ble_eq_true rfl) dX5_wheel_1 ⟨Nat.zero_le _, Nat.zero_le _⟩ (fun H locs hw => ?_)
  have hw : g_W D A s [(ob, .inr (5, [z0, z1, .ref h, z3, z4, z5, z6, z7, z8, z9, z10])), (h, .inr (4, [.ref hs, .ref ht, .ref hq, .int (nI (sD S)), .int (sM S), .float (sP S), .int (sI S), .int (sC S), .int (sA S), .int (sR S), .int (nI (sK S))])), (hs, .inl (E 1, 4, .inr (.inr (.inl (sF S))))), (ht, .inl (E 0, 4, .inl (sT S))), (hq, .inl (E 0, 18, .inl (sW S)))] H locs := hw
  refine W.eq (congrArg (fun z => F0 m 4 ls (.int z :: [])) (show (b2i (outB (nI n) 0 3) : Int32) = 0 from (congrArg b2i (out_nf (n := n) (a := 0) (b := 3) (by omega) hn (by decide))))) ?_
  refine lv_if_eq (tgt := 9) hx hb dX5_wheel_4 (by decide) (fun c_4 => ?_) (fun c_4 => absurd c_4 (by decide))
  refine lv_iload_n hx hb dX5_wheel_9 rfl (lv_at hl 2 rfl) ?_
  by_cases y_0 : w = 0
  · skip
    refine lv_tableIn (off := 38) (tgt := 48) hx hb dX5_wheel_10 (by rw [y_0]; decide) (by rw [y_0]; decide) (by rw [y_0]; rfl) (by decide) ?_
    refine lv_aload_n hx hb dX5_wheel_48 rfl (lv_at hl 0 rfl) ?_
    refine g_get (TT := TX5) hc hw inX5_wheel_X5 0 2 1 rfl rfl (by decide) rfl rfl dX5_wheel_49 ?_
    refine g_getN (TT := TX4) hc hw inX5_wheel_X4 1 0 16 rfl rfl (by decide) rfl rfl dX5_wheel_52 ?_
    refine lv_iload_n hx hb dX5_wheel_55 rfl (lv_at hl 1 rfl) ?_
    refine g_fld hc hw 2 n rfl rfl (by omega) (by decide) dX5_wheel_56 ?_
    refine g_cS (As := [.float ((sF S) n)]) (n := 1) (rest := []) (wc := []) (w1 := []) (bytes := cX5_bitsOf) (maxL := 4) (ret := (some .int)) hc hw hl.1 (m_X5_bitsOf (l := l) (D := D) (E := E) (T := T) ((sF S) n) (g_mgW (hok.f n (by omega)) (by decide)) ((hok.2.2.2.2.1 n (by omega)).2)) gX5_wheel_X5_bitsOf rfl (by decide +kernel) (by rw [hR]; exact ⟨Nat.le_of_ble_eq_true rfl, Nat.le_of_ble_eq_true rfl⟩) [] (by decide) rfl [] rfl rfl rfl rfl (Nat.le_of_ble_eq_true rfl) dX5_wheel_57 ⟨Nat.zero_le _, Nat.zero_le _⟩ (fun H locs hw => ?_)
    have hw : g_W D A s [(ob, .inr (5, [z0, z1, .ref h, z3, z4, z5, z6, z7, z8, z9, z10])), (h, .inr (4, [.ref hs, .ref ht, .ref hq, .int (nI (sD S)), .int (sM S), .float (sP S), .int (sI S), .int (sC S), .int (sA S), .int (sR S), .int (nI (sK S))])), (hs, .inl (E 1, 4, .inr (.inr (.inl (sF S))))), (ht, .inl (E 0, 4, .inl (sT S))), (hq, .inl (E 0, 18, .inl (sW S)))] H locs := hw
    exact g_iret hQ hc hw hr (by exact congrArg (fun z => some (Value.int z)) (by unfold whF; simp only [if_pos y_0])) rfl dX5_wheel_60
  by_cases y_1 : w = 1
  · skip
    refine lv_tableIn (off := 51) (tgt := 61) hx hb dX5_wheel_10 (by rw [y_1]; decide) (by rw [y_1]; decide) (by rw [y_1]; rfl) (by decide) ?_
    refine lv_aload_n hx hb dX5_wheel_61 rfl (lv_at hl 0 rfl) ?_
    refine g_get (TT := TX5) hc hw inX5_wheel_X5 0 2 1 rfl rfl (by decide) rfl rfl dX5_wheel_62 ?_
    refine g_getN (TT := TX4) hc hw inX5_wheel_X4 1 0 16 rfl rfl (by decide) rfl rfl dX5_wheel_65 ?_
    refine lv_iload_n hx hb dX5_wheel_68 rfl (lv_at hl 1 rfl) ?_
    refine g_fld hc hw 2 n rfl rfl (by omega) (by decide) dX5_wheel_69 ?_
    refine g_cS (As := [.float ((sF S) n)]) (n := 1) (rest := []) (wc := []) (w1 := []) (bytes := cX5_thousandthsOf) (maxL := 1) (ret := (some .int)) hc hw hl.1 (m_X5_thousandthsOf (l := l) (D := D) (E := E) (T := T) ((sF S) n) (g_mgW (hok.f n (by omega)) (by decide))) gX5_wheel_X5_thousandthsOf rfl (by decide +kernel) (by rw [hR]; exact ⟨Nat.le_of_ble_eq_true rfl, Nat.le_of_ble_eq_true rfl⟩) [] (by decide) rfl [] rfl rfl rfl rfl (Nat.le_of_ble_eq_true rfl) dX5_wheel_70 ⟨Nat.zero_le _, Nat.zero_le _⟩ (fun H locs hw => ?_)
    have hw : g_W D A s [(ob, .inr (5, [z0, z1, .ref h, z3, z4, z5, z6, z7, z8, z9, z10])), (h, .inr (4, [.ref hs, .ref ht, .ref hq, .int (nI (sD S)), .int (sM S), .float (sP S), .int (sI S), .int (sC S), .int (sA S), .int (sR S), .int (nI (sK S))])), (hs, .inl (E 1, 4, .inr (.inr (.inl (sF S))))), (ht, .inl (E 0, 4, .inl (sT S))), (hq, .inl (E 0, 18, .inl (sW S)))] H locs := hw
    exact g_iret hQ hc hw hr (by exact congrArg (fun z => some (Value.int z)) (by unfold whF; simp only [if_neg y_0, if_pos y_1])) rfl dX5_wheel_73
  by_cases y_2 : w = 2
  · skip
    refine lv_tableIn (off := 64) (tgt := 74) hx hb dX5_wheel_10 (by rw [y_2]; decide) (by rw [y_2]; decide) (by rw [y_2]; rfl) (by decide) ?_
    refine lv_aload_n hx hb dX5_wheel_74 rfl (lv_at hl 0 rfl) ?_
    refine g_get (TT := TX5) hc hw inX5_wheel_X5 0 2 1 rfl rfl (by decide) rfl rfl dX5_wheel_75 ?_
    refine lv_iload_n hx hb dX5_wheel_78 rfl (lv_at hl 1 rfl) ?_
    refine g_cVN (As := [.int (nI n)]) (n := 1) (rest := []) (wc := [(h, .inr (4, [.ref hs, .ref ht, .ref hq, .int (nI (sD S)), .int (sM S), .float (sP S), .int (sI S), .int (sC S), .int (sA S), .int (sR S), .int (nI (sK S))]))]) (w1 := [(h, .inr (4, [.ref hs, .ref ht, .ref hq, .int (nI (sD S)), .int (sM S), .float (sP S), .int (sI S), .int (sC S), .int (sA S), .int (sR S), .int (nI (sK S))]))]) (bytes := cX4_isDead) (maxL := 2) (ret := (some .boolean)) hc hw hl.1 (m_X4_isDead (l := l) (D := D) (E := E) (T := T) h (.ref hs) (.ref ht) (.ref hq) (.int (sM S)) (.float (sP S)) (.int (sI S)) (.int (sC S)) (.int (sA S)) (.int (sR S)) (.int (nI (sK S))) (sD S) n hok.d (by omega)) ggX5_wheel_X4_isDead rfl 52 rfl 23 22 24 rfl rfl rfl (by decide +kernel) (by rw [hR]; exact ⟨Nat.le_of_ble_eq_true rfl, Nat.le_of_ble_eq_true rfl⟩) [1] 1 4 rfl rfl (by decide) rfl [h] rfl rfl rfl rfl (Nat.le_of_ble_eq_true rfl) dX5_wheel_79 ⟨Nat.zero_le _, Nat.zero_le _⟩ (fun H locs hw => ?_)
    have hw : g_W D A s [(ob, .inr (5, [z0, z1, .ref h, z3, z4, z5, z6, z7, z8, z9, z10])), (h, .inr (4, [.ref hs, .ref ht, .ref hq, .int (nI (sD S)), .int (sM S), .float (sP S), .int (sI S), .int (sC S), .int (sA S), .int (sR S), .int (nI (sK S))])), (hs, .inl (E 1, 4, .inr (.inr (.inl (sF S))))), (ht, .inl (E 0, 4, .inl (sT S))), (hq, .inl (E 0, 18, .inl (sW S)))] H locs := hw
    refine lv_if_eq (tgt := 89) hx hb dX5_wheel_82 (by decide) (fun c_82 => ?_) (fun c_82 => ?_)
    · skip
      have k_82 := b2i_eq c_82
      refine lv_iconst (v := 0) hx hb dX5_wheel_89 (by decide) ?_
      exact g_iret hQ hc hw hr (by exact congrArg (fun z => some (Value.int z)) (by unfold whF; simp only [if_neg y_0, if_neg y_1, if_pos y_2]; rw [k_82]; rfl)) rfl dX5_wheel_90
    · skip
      have k_82 := b2i_ne c_82
      refine lv_iconst (v := 1) hx hb dX5_wheel_85 (by decide) ?_
      refine lv_goto (tgt := 90) hx hb dX5_wheel_86 (by decide) ?_
      exact g_iret hQ hc hw hr (by exact congrArg (fun z => some (Value.int z)) (by unfold whF; simp only [if_neg y_0, if_neg y_1, if_pos y_2]; rw [k_82]; rfl)) rfl dX5_wheel_90
  by_cases y_3 : w = 3
  · skip
    refine lv_tableIn (off := 81) (tgt := 91) hx hb dX5_wheel_10 (by rw [y_3]; decide) (by rw [y_3]; decide) (by rw [y_3]; rfl) (by decide) ?_
    refine g_gst hc hw 0 2 (by decide) rfl dX5_wheel_91 ?_
    refine lv_iload_n hx hb dX5_wheel_94 rfl (lv_at hl 1 rfl) ?_
    refine lv_iconst (v := 3) hx hb dX5_wheel_95 (by decide) ?_
    refine lv_imul hx hb dX5_wheel_96 ?_
    refine lv_iload_n hx hb dX5_wheel_97 rfl (lv_at hl 2 rfl) ?_
    refine lv_iadd hx hb dX5_wheel_98 ?_
    refine lv_iconst (v := 3) hx hb dX5_wheel_99 (by decide) ?_
    refine lv_isub hx hb dX5_wheel_100 ?_
    refine g_tld hc hw 0 (n * 3 + 0) (by decide) (by rw [y_3]; exact n_sub (b := 3) (n_add (b := 3) (n_mul rfl rfl) rfl) rfl (by omega)) (by first | decide | (show _ < 12; omega)) dX5_wheel_101 ?_
    exact g_iret hQ hc hw hr (by exact congrArg (fun z => some (Value.int z)) (by unfold whF; simp only [if_neg y_0, if_neg y_1, if_neg y_2, if_pos y_3])) rfl dX5_wheel_102
  by_cases y_4 : w = 4
  · skip
    refine lv_tableIn (off := 81) (tgt := 91) hx hb dX5_wheel_10 (by rw [y_4]; decide) (by rw [y_4]; decide) (by rw [y_4]; rfl) (by decide) ?_
    refine g_gst hc hw 0 2 (by decide) rfl dX5_wheel_91 ?_
    refine lv_iload_n hx hb dX5_wheel_94 rfl (lv_at hl 1 rfl) ?_
    refine lv_iconst (v := 3) hx hb dX5_wheel_95 (by decide) ?_
    refine lv_imul hx hb dX5_wheel_96 ?_
    refine lv_iload_n hx hb dX5_wheel_97 rfl (lv_at hl 2 rfl) ?_
    refine lv_iadd hx hb dX5_wheel_98 ?_
    refine lv_iconst (v := 3) hx hb dX5_wheel_99 (by decide) ?_
    refine lv_isub hx hb dX5_wheel_100 ?_
    refine g_tld hc hw 0 (n * 3 + 1) (by decide) (by rw [y_4]; exact n_sub (b := 3) (n_add (b := 4) (n_mul rfl rfl) rfl) rfl (by omega)) (by first | decide | (show _ < 12; omega)) dX5_wheel_101 ?_
    exact g_iret hQ hc hw hr (by exact congrArg (fun z => some (Value.int z)) (by unfold whF; simp only [if_neg y_0, if_neg y_1, if_neg y_2, if_neg y_3, if_pos y_4])) rfl dX5_wheel_102
  by_cases y_5 : w = 5
  · skip
    refine lv_tableIn (off := 81) (tgt := 91) hx hb dX5_wheel_10 (by rw [y_5]; decide) (by rw [y_5]; decide) (by rw [y_5]; rfl) (by decide) ?_
    refine g_gst hc hw 0 2 (by decide) rfl dX5_wheel_91 ?_
    refine lv_iload_n hx hb dX5_wheel_94 rfl (lv_at hl 1 rfl) ?_
    refine lv_iconst (v := 3) hx hb dX5_wheel_95 (by decide) ?_
    refine lv_imul hx hb dX5_wheel_96 ?_
    refine lv_iload_n hx hb dX5_wheel_97 rfl (lv_at hl 2 rfl) ?_
    refine lv_iadd hx hb dX5_wheel_98 ?_
    refine lv_iconst (v := 3) hx hb dX5_wheel_99 (by decide) ?_
    refine lv_isub hx hb dX5_wheel_100 ?_
    refine g_tld hc hw 0 (n * 3 + 2) (by decide) (by rw [y_5]; exact n_sub (b := 3) (n_add (b := 5) (n_mul rfl rfl) rfl) rfl (by omega)) (by first | decide | (show _ < 12; omega)) dX5_wheel_101 ?_
    exact g_iret hQ hc hw hr (by exact congrArg (fun z => some (Value.int z)) (by unfold whF; simp only [if_neg y_0, if_neg y_1, if_neg y_2, if_neg y_3, if_neg y_4, if_pos y_5])) rfl dX5_wheel_102
  have z_0 := lv_neT (a := 0) y_0 (by decide)
  have z_1 := lv_neT (a := 1) y_1 (by decide)
  have z_2 := lv_neT (a := 2) y_2 (by decide)
  have z_3 := lv_neT (a := 3) y_3 (by decide)
  have z_4 := lv_neT (a := 4) y_4 (by decide)
  have z_5 := lv_neT (a := 5) y_5 (by decide)
  refine lv_tableOut (tgt := 103) hx hb dX5_wheel_10 (by omega) (by decide) ?_
  refine lv_bipush (v := (-2)) hx hb dX5_wheel_103 (by decide) ?_
  exact g_iret hQ hc hw hr (by exact congrArg (fun z => some (Value.int z)) (by unfold whF; simp only [if_neg y_0, if_neg y_1, if_neg y_2, if_neg y_3, if_neg y_4, if_neg y_5])) rfl dX5_wheel_105

theorem dX5_told_0 : decode cX5_told 0 = .ok (.iload_n 2, 1) := by decide +kernel
theorem dX5_told_1 : decode cX5_told 1 = .ok (.ifCond .lt 28, 3) := by decide +kernel
theorem dX5_told_4 : decode cX5_told 4 = .ok (.iload_n 2, 1) := by decide +kernel
theorem dX5_told_5 : decode cX5_told 5 = .ok (.iload_n 1, 1) := by decide +kernel
theorem dX5_told_6 : decode cX5_told 6 = .ok (.ifCond .eq 13, 3) := by decide +kernel
theorem dX5_told_9 : decode cX5_told 9 = .ok (.aload_n 0, 1) := by decide +kernel
theorem dX5_told_10 : decode cX5_told 10 = .ok (.getfield 19, 3) := by decide +kernel
theorem dX5_told_13 : decode cX5_told 13 = .ok (.getfield 85, 3) := by decide +kernel
theorem dX5_told_16 : decode cX5_told 16 = .ok (.goto 10, 3) := by decide +kernel
theorem dX5_told_19 : decode cX5_told 19 = .ok (.aload_n 0, 1) := by decide +kernel
theorem dX5_told_20 : decode cX5_told 20 = .ok (.getfield 19, 3) := by decide +kernel
theorem dX5_told_23 : decode cX5_told 23 = .ok (.getfield 109, 3) := by decide +kernel
theorem dX5_told_26 : decode cX5_told 26 = .ok (.if_icmp .lt 5, 3) := by decide +kernel
theorem dX5_told_29 : decode cX5_told 29 = .ok (.iconst (-1), 1) := by decide +kernel
theorem dX5_told_30 : decode cX5_told 30 = .ok (.ireturn, 1) := by decide +kernel
theorem inX5_told_X1 : ∀ w ∈ u_ws RX1 TX1 10, w ∈ wsX5_told := fun w h => List.mem_cons_of_mem _ (List.mem_append_left _ (List.mem_append_right _ h))
theorem inX5_told_X5 : ∀ w ∈ u_ws RX5 TX5 11, w ∈ wsX5_told := fun w h => List.mem_cons_of_mem _ (List.mem_append_left _ (List.mem_append_left _ (List.mem_append_right _ h)))
set_option maxRecDepth 100000 in
set_option maxHeartbeats 4000000 in
theorem m_X5_told_row {l : Launch} {D : va_G} {E : Nat → ClassId} {T : Nat → Nat} (ob : Nat) (pl : Nat) (fa : Nat) (nf : Nat) (nw : Nat) (h : Nat) (hq : Nat) (z0 : Value) (z3 : Value) (z4 : Value) (z5 : Value) (z6 : Value) (z7 : Value) (z8 : Value) (z9 : Value) (z10 : Value) (u3 : Value) (u4 : Value) (u5 : Value) (u6 : Value) (u7 : Value) (u8 : Value) (u9 : Value) (v0 : Value) (v1 : Value) (v3 : Value) (v4 : Value) (v5 : Value) (v6 : Value) (v7 : Value) (v8 : Value) (v9 : Value) (v10 : Value) (fl : Nat → Int32) (w9 : Nat → Int32) (ww : Bool) (v : Int32) (k : Int32) (hr9 : 0 ≤ v → (ww = true → ¬ v < nI nw) ∧ (ww = false → ¬ v < nI nf)) : g_M l D E T yX5_told wsX5_told 0 0 [.ref ob, .int (b2i ww), .int v, .int k] [(ob, .inr (5, [z0, .ref pl, .ref h, z3, z4, z5, z6, z7, z8, z9, z10])), (pl, .inr (1, [.ref fa, .int (nI nf), .int (nI nw), u3, u4, u5, u6, u7, u8, u9])), (h, .inr (4, [v0, v1, .ref hq, v3, v4, v5, v6, v7, v8, v9, v10])), (fa, .inl (E 0, 18, .inl fl)), (hq, .inl (E 0, 18, .inl w9))] [(ob, .inr (5, [z0, .ref pl, .ref h, z3, z4, z5, z6, z7, z8, z9, z10])), (pl, .inr (1, [.ref fa, .int (nI nf), .int (nI nw), u3, u4, u5, u6, u7, u8, u9])), (h, .inr (4, [v0, v1, .ref hq, v3, v4, v5, v6, v7, v8, v9, v10])), (fa, .inl (E 0, 18, .inl fl)), (hq, .inl (E 0, 18, .inl w9))] (some (.int (-1))) := by
  refine g_M.of (cc := cX5_told) (nL := 4) (ret := (some .int)) (own := RX5) (lv := [(0, .ref ob), (1, .int (b2i ww)), (2, .int v), (3, .int k)]) (by decide) rfl rfl (Nat.le_of_ble_eq_true rfl) rfl ?_
  intro p e R s m args below meth c A Q H locs ls hR hQ hc hr hw hl
  have hx := hc.1
  have hb := hc.2.1
  have hts := hc.2.2.2.1
  have hown := hc.2.2.2.2.1
  refine lv_iload_n hx hb dX5_told_0 rfl (lv_at hl 2 rfl) ?_
  refine lv_if_lt (tgt := 29) hx hb dX5_told_1 (by decide) (fun c_1 => ?_) (fun c_1 => ?_)
  · skip
    refine lv_iconst (v := (-1)) hx hb dX5_told_29 (by decide) ?_
    exact g_iret hQ hc hw hr rfl rfl dX5_told_30
  · skip
    refine lv_iload_n hx hb dX5_told_4 rfl (lv_at hl 2 rfl) ?_
    refine lv_iload_n hx hb dX5_told_5 rfl (lv_at hl 1 rfl) ?_
    refine lv_if_eq (tgt := 19) hx hb dX5_told_6 (by decide) (fun c_6 => ?_) (fun c_6 => ?_)
    · skip
      have k_6 := b2i_eq c_6
      refine lv_aload_n hx hb dX5_told_19 rfl (lv_at hl 0 rfl) ?_
      refine g_get (TT := TX5) hc hw inX5_told_X5 0 1 1 rfl rfl (by decide) rfl rfl dX5_told_20 ?_
      refine g_getN (TT := TX1) hc hw inX5_told_X1 1 1 6 rfl rfl (by decide) rfl rfl dX5_told_23 ?_
      refine lv_icmp_lt (tgt := 31) hx hb dX5_told_26 (by decide) (fun c_26 => absurd c_26 ((hr9 (Int32.not_lt.mp c_1)).2 k_6)) (fun c_26 => ?_)
      refine lv_iconst (v := (-1)) hx hb dX5_told_29 (by decide) ?_
      exact g_iret hQ hc hw hr rfl rfl dX5_told_30
    · skip
      have k_6 := b2i_ne c_6
      refine lv_aload_n hx hb dX5_told_9 rfl (lv_at hl 0 rfl) ?_
      refine g_get (TT := TX5) hc hw inX5_told_X5 0 1 1 rfl rfl (by decide) rfl rfl dX5_told_10 ?_
      refine g_getN (TT := TX1) hc hw inX5_told_X1 1 2 8 rfl rfl (by decide) rfl rfl dX5_told_13 ?_
      refine lv_goto (tgt := 26) hx hb dX5_told_16 (by decide) ?_
      refine lv_icmp_lt (tgt := 31) hx hb dX5_told_26 (by decide) (fun c_26 => absurd c_26 ((hr9 (Int32.not_lt.mp c_1)).1 k_6)) (fun c_26 => ?_)
      refine lv_iconst (v := (-1)) hx hb dX5_told_29 (by decide) ?_
      exact g_iret hQ hc hw hr rfl rfl dX5_told_30

theorem dX5_told_31 : decode cX5_told 31 = .ok (.iload_n 3, 1) := by decide +kernel
theorem dX5_told_32 : decode cX5_told 32 = .ok (.iconst 0, 1) := by decide +kernel
theorem dX5_told_33 : decode cX5_told 33 = .ok (.iconst 2, 1) := by decide +kernel
theorem dX5_told_34 : decode cX5_told 34 = .ok (.invokestatic 59, 3) := by decide +kernel
theorem dX5_told_37 : decode cX5_told 37 = .ok (.ifCond .eq 6, 3) := by decide +kernel
theorem dX5_told_40 : decode cX5_told 40 = .ok (.bipush (-2), 2) := by decide +kernel
theorem dX5_told_42 : decode cX5_told 42 = .ok (.ireturn, 1) := by decide +kernel
set_option maxRecDepth 20000 in
theorem ggX5_told_X5_outside : GoodIn wsX5_told wsX5_outside := goodIn_r _ [6] rfl (by decide +kernel)
set_option maxRecDepth 20000 in
theorem gX5_told_X5_outside : GoodIn wsX5_told (va_wsS RX5 59 yX5_outside wsX5_outside) := goodIn_app (goodIn_of _ (by decide +kernel)) ggX5_told_X5_outside
set_option maxRecDepth 100000 in
set_option maxHeartbeats 4000000 in
theorem m_X5_told_out {l : Launch} {D : va_G} {E : Nat → ClassId} {T : Nat → Nat} (ob : Nat) (pl : Nat) (fa : Nat) (nf : Nat) (nw : Nat) (h : Nat) (hq : Nat) (z0 : Value) (z3 : Value) (z4 : Value) (z5 : Value) (z6 : Value) (z7 : Value) (z8 : Value) (z9 : Value) (z10 : Value) (u3 : Value) (u4 : Value) (u5 : Value) (u6 : Value) (u7 : Value) (u8 : Value) (u9 : Value) (v0 : Value) (v1 : Value) (v3 : Value) (v4 : Value) (v5 : Value) (v6 : Value) (v7 : Value) (v8 : Value) (v9 : Value) (v10 : Value) (fl : Nat → Int32) (w9 : Nat → Int32) (ww : Bool) (r9 : Nat) (k : Int32) (hw1 : ww = true → r9 < nw) (hf1 : ww = false → r9 < nf) (hnw : nw ≤ 6) (hnf : nf ≤ 6) (ho : outB k 0 2 = true) : g_M l D E T yX5_told wsX5_told 1 22 [.ref ob, .int (b2i ww), .int (nI r9), .int k] [(ob, .inr (5, [z0, .ref pl, .ref h, z3, z4, z5, z6, z7, z8, z9, z10])), (pl, .inr (1, [.ref fa, .int (nI nf), .int (nI nw), u3, u4, u5, u6, u7, u8, u9])), (h, .inr (4, [v0, v1, .ref hq, v3, v4, v5, v6, v7, v8, v9, v10])), (fa, .inl (E 0, 18, .inl fl)), (hq, .inl (E 0, 18, .inl w9))] [(ob, .inr (5, [z0, .ref pl, .ref h, z3, z4, z5, z6, z7, z8, z9, z10])), (pl, .inr (1, [.ref fa, .int (nI nf), .int (nI nw), u3, u4, u5, u6, u7, u8, u9])), (h, .inr (4, [v0, v1, .ref hq, v3, v4, v5, v6, v7, v8, v9, v10])), (fa, .inl (E 0, 18, .inl fl)), (hq, .inl (E 0, 18, .inl w9))] (some (.int (-2))) := by
  have hr6 : r9 < 6 := (by cases ww with | false => (have := hf1 rfl; omega) | true => (have := hw1 rfl; omega))
  refine g_M.of (cc := cX5_told) (nL := 4) (ret := (some .int)) (own := RX5) (lv := [(0, .ref ob), (1, .int (b2i ww)), (2, .int (nI r9)), (3, .int k)]) (by decide) rfl rfl (Nat.le_of_ble_eq_true rfl) rfl ?_
  intro p e R s m args below meth c A Q H locs ls hR hQ hc hr hw hl
  have hx := hc.1
  have hb := hc.2.1
  have hts := hc.2.2.2.1
  have hown := hc.2.2.2.2.1
  refine lv_iload_n hx hb dX5_told_0 rfl (lv_at hl 2 rfl) ?_
  refine lv_if_lt (tgt := 29) hx hb dX5_told_1 (by decide) (fun c_1 => absurd c_1 (Int32.not_lt.mpr (nI_le (Nat.zero_le r9) (by omega)))) (fun c_1 => ?_)
  refine lv_iload_n hx hb dX5_told_4 rfl (lv_at hl 2 rfl) ?_
  refine lv_iload_n hx hb dX5_told_5 rfl (lv_at hl 1 rfl) ?_
  refine lv_if_eq (tgt := 19) hx hb dX5_told_6 (by decide) (fun c_6 => ?_) (fun c_6 => ?_)
  · skip
    have k_6 := b2i_eq c_6
    refine lv_aload_n hx hb dX5_told_19 rfl (lv_at hl 0 rfl) ?_
    refine g_get (TT := TX5) hc hw inX5_told_X5 0 1 1 rfl rfl (by decide) rfl rfl dX5_told_20 ?_
    refine g_getN (TT := TX1) hc hw inX5_told_X1 1 1 6 rfl rfl (by decide) rfl rfl dX5_told_23 ?_
    refine lv_icmp_lt (tgt := 31) hx hb dX5_told_26 (by decide) (fun c_26 => ?_) (fun c_26 => absurd (nI_lt (hf1 k_6) (by omega)) c_26)
    refine lv_iload_n hx hb dX5_told_31 rfl (lv_at hl 3 rfl) ?_
    refine lv_iconst (v := 0) hx hb dX5_told_32 (by decide) ?_
    refine lv_iconst (v := 2) hx hb dX5_told_33 (by decide) ?_
    refine g_cS (As := [.int k, .int 0, .int 2]) (n := 3) (rest := []) (wc := []) (w1 := []) (bytes := cX5_outside) (maxL := 3) (ret := (some .boolean)) hc hw hl.1 (m_X5_outside (l := l) (D := D) (E := E) (T := T) k 0 2) gX5_told_X5_outside rfl (by decide +kernel) (by rw [hR]; exact ⟨Nat.le_of_ble_eq_true rfl, Nat.le_of_ble_eq_true rfl⟩) [] (by decide) rfl [] rfl rfl rfl rfl (Nat.le_of_ble_eq_true rfl) dX5_told_34 ⟨Nat.zero_le _, Nat.zero_le _⟩ (fun H locs hw => ?_)
    have hw : g_W D A s [(ob, .inr (5, [z0, .ref pl, .ref h, z3, z4, z5, z6, z7, z8, z9, z10])), (pl, .inr (1, [.ref fa, .int (nI nf), .int (nI nw), u3, u4, u5, u6, u7, u8, u9])), (h, .inr (4, [v0, v1, .ref hq, v3, v4, v5, v6, v7, v8, v9, v10])), (fa, .inl (E 0, 18, .inl fl)), (hq, .inl (E 0, 18, .inl w9))] H locs := hw
    refine W.eq (congrArg (fun z => F0 m 37 ls (.int z :: [])) (show (b2i (outB k 0 2) : Int32) = 1 from (congrArg b2i ho))) ?_
    refine lv_if_eq (tgt := 43) hx hb dX5_told_37 (by decide) (fun c_37 => absurd c_37 (by decide)) (fun c_37 => ?_)
    refine lv_bipush (v := (-2)) hx hb dX5_told_40 (by decide) ?_
    exact g_iret hQ hc hw hr rfl rfl dX5_told_42
  · skip
    have k_6 := b2i_ne c_6
    refine lv_aload_n hx hb dX5_told_9 rfl (lv_at hl 0 rfl) ?_
    refine g_get (TT := TX5) hc hw inX5_told_X5 0 1 1 rfl rfl (by decide) rfl rfl dX5_told_10 ?_
    refine g_getN (TT := TX1) hc hw inX5_told_X1 1 2 8 rfl rfl (by decide) rfl rfl dX5_told_13 ?_
    refine lv_goto (tgt := 26) hx hb dX5_told_16 (by decide) ?_
    refine lv_icmp_lt (tgt := 31) hx hb dX5_told_26 (by decide) (fun c_26 => ?_) (fun c_26 => absurd (nI_lt (hw1 k_6) (by omega)) c_26)
    refine lv_iload_n hx hb dX5_told_31 rfl (lv_at hl 3 rfl) ?_
    refine lv_iconst (v := 0) hx hb dX5_told_32 (by decide) ?_
    refine lv_iconst (v := 2) hx hb dX5_told_33 (by decide) ?_
    refine g_cS (As := [.int k, .int 0, .int 2]) (n := 3) (rest := []) (wc := []) (w1 := []) (bytes := cX5_outside) (maxL := 3) (ret := (some .boolean)) hc hw hl.1 (m_X5_outside (l := l) (D := D) (E := E) (T := T) k 0 2) gX5_told_X5_outside rfl (by decide +kernel) (by rw [hR]; exact ⟨Nat.le_of_ble_eq_true rfl, Nat.le_of_ble_eq_true rfl⟩) [] (by decide) rfl [] rfl rfl rfl rfl (Nat.le_of_ble_eq_true rfl) dX5_told_34 ⟨Nat.zero_le _, Nat.zero_le _⟩ (fun H locs hw => ?_)
    have hw : g_W D A s [(ob, .inr (5, [z0, .ref pl, .ref h, z3, z4, z5, z6, z7, z8, z9, z10])), (pl, .inr (1, [.ref fa, .int (nI nf), .int (nI nw), u3, u4, u5, u6, u7, u8, u9])), (h, .inr (4, [v0, v1, .ref hq, v3, v4, v5, v6, v7, v8, v9, v10])), (fa, .inl (E 0, 18, .inl fl)), (hq, .inl (E 0, 18, .inl w9))] H locs := hw
    refine W.eq (congrArg (fun z => F0 m 37 ls (.int z :: [])) (show (b2i (outB k 0 2) : Int32) = 1 from (congrArg b2i ho))) ?_
    refine lv_if_eq (tgt := 43) hx hb dX5_told_37 (by decide) (fun c_37 => absurd c_37 (by decide)) (fun c_37 => ?_)
    refine lv_bipush (v := (-2)) hx hb dX5_told_40 (by decide) ?_
    exact g_iret hQ hc hw hr rfl rfl dX5_told_42

theorem dX5_told_43 : decode cX5_told 43 = .ok (.iload_n 1, 1) := by decide +kernel
theorem dX5_told_44 : decode cX5_told 44 = .ok (.ifCond .eq 19, 3) := by decide +kernel
theorem dX5_told_47 : decode cX5_told 47 = .ok (.aload_n 0, 1) := by decide +kernel
theorem dX5_told_48 : decode cX5_told 48 = .ok (.getfield 26, 3) := by decide +kernel
theorem dX5_told_51 : decode cX5_told 51 = .ok (.getfield 112, 3) := by decide +kernel
theorem dX5_told_54 : decode cX5_told 54 = .ok (.iload_n 2, 1) := by decide +kernel
theorem dX5_told_55 : decode cX5_told 55 = .ok (.iconst 3, 1) := by decide +kernel
theorem dX5_told_56 : decode cX5_told 56 = .ok (.imul, 1) := by decide +kernel
theorem dX5_told_57 : decode cX5_told 57 = .ok (.iload_n 3, 1) := by decide +kernel
theorem dX5_told_58 : decode cX5_told 58 = .ok (.iadd, 1) := by decide +kernel
theorem dX5_told_59 : decode cX5_told 59 = .ok (.iaload, 1) := by decide +kernel
theorem dX5_told_60 : decode cX5_told 60 = .ok (.goto 16, 3) := by decide +kernel
theorem dX5_told_63 : decode cX5_told 63 = .ok (.aload_n 0, 1) := by decide +kernel
theorem dX5_told_64 : decode cX5_told 64 = .ok (.getfield 19, 3) := by decide +kernel
theorem dX5_told_67 : decode cX5_told 67 = .ok (.getfield 115, 3) := by decide +kernel
theorem dX5_told_70 : decode cX5_told 70 = .ok (.iload_n 2, 1) := by decide +kernel
theorem dX5_told_71 : decode cX5_told 71 = .ok (.iconst 3, 1) := by decide +kernel
theorem dX5_told_72 : decode cX5_told 72 = .ok (.imul, 1) := by decide +kernel
theorem dX5_told_73 : decode cX5_told 73 = .ok (.iload_n 3, 1) := by decide +kernel
theorem dX5_told_74 : decode cX5_told 74 = .ok (.iadd, 1) := by decide +kernel
theorem dX5_told_75 : decode cX5_told 75 = .ok (.iaload, 1) := by decide +kernel
theorem dX5_told_76 : decode cX5_told 76 = .ok (.ireturn, 1) := by decide +kernel
theorem inX5_told_X4 : ∀ w ∈ u_ws RX4 TX4 11, w ∈ wsX5_told := fun w h => List.mem_cons_of_mem _ (List.mem_append_right _ h)
set_option maxRecDepth 100000 in
set_option maxHeartbeats 4000000 in
theorem m_X5_told {l : Launch} {D : va_G} {E : Nat → ClassId} {T : Nat → Nat} (ob : Nat) (pl : Nat) (fa : Nat) (nf : Nat) (nw : Nat) (h : Nat) (hq : Nat) (z0 : Value) (z3 : Value) (z4 : Value) (z5 : Value) (z6 : Value) (z7 : Value) (z8 : Value) (z9 : Value) (z10 : Value) (u3 : Value) (u4 : Value) (u5 : Value) (u6 : Value) (u7 : Value) (u8 : Value) (u9 : Value) (v0 : Value) (v1 : Value) (v3 : Value) (v4 : Value) (v5 : Value) (v6 : Value) (v7 : Value) (v8 : Value) (v9 : Value) (v10 : Value) (fl : Nat → Int32) (w9 : Nat → Int32) (ww : Bool) (r9 : Nat) (k : Nat) (hw1 : ww = true → r9 < nw) (hf1 : ww = false → r9 < nf) (hnw : nw ≤ 6) (hnf : nf ≤ 6) (hk : k ≤ 2) : g_M l D E T yX5_told wsX5_told 1 22 [.ref ob, .int (b2i ww), .int (nI r9), .int (nI k)] [(ob, .inr (5, [z0, .ref pl, .ref h, z3, z4, z5, z6, z7, z8, z9, z10])), (pl, .inr (1, [.ref fa, .int (nI nf), .int (nI nw), u3, u4, u5, u6, u7, u8, u9])), (h, .inr (4, [v0, v1, .ref hq, v3, v4, v5, v6, v7, v8, v9, v10])), (fa, .inl (E 0, 18, .inl fl)), (hq, .inl (E 0, 18, .inl w9))] [(ob, .inr (5, [z0, .ref pl, .ref h, z3, z4, z5, z6, z7, z8, z9, z10])), (pl, .inr (1, [.ref fa, .int (nI nf), .int (nI nw), u3, u4, u5, u6, u7, u8, u9])), (h, .inr (4, [v0, v1, .ref hq, v3, v4, v5, v6, v7, v8, v9, v10])), (fa, .inl (E 0, 18, .inl fl)), (hq, .inl (E 0, 18, .inl w9))] (some (.int (if ww = true then w9 (r9 * 3 + k) else fl (r9 * 3 + k)))) := by
  have hr6 : r9 < 6 := (by cases ww with | false => (have := hf1 rfl; omega) | true => (have := hw1 rfl; omega))
  refine g_M.of (cc := cX5_told) (nL := 4) (ret := (some .int)) (own := RX5) (lv := [(0, .ref ob), (1, .int (b2i ww)), (2, .int (nI r9)), (3, .int (nI k))]) (by decide) rfl rfl (Nat.le_of_ble_eq_true rfl) rfl ?_
  intro p e R s m args below meth c A Q H locs ls hR hQ hc hr hw hl
  have hx := hc.1
  have hb := hc.2.1
  have hts := hc.2.2.2.1
  have hown := hc.2.2.2.2.1
  refine lv_iload_n hx hb dX5_told_0 rfl (lv_at hl 2 rfl) ?_
  refine lv_if_lt (tgt := 29) hx hb dX5_told_1 (by decide) (fun c_1 => absurd c_1 (Int32.not_lt.mpr (nI_le (Nat.zero_le r9) (by omega)))) (fun c_1 => ?_)
  refine lv_iload_n hx hb dX5_told_4 rfl (lv_at hl 2 rfl) ?_
  refine lv_iload_n hx hb dX5_told_5 rfl (lv_at hl 1 rfl) ?_
  refine lv_if_eq (tgt := 19) hx hb dX5_told_6 (by decide) (fun c_6 => ?_) (fun c_6 => ?_)
  · skip
    have k_6 := b2i_eq c_6
    refine lv_aload_n hx hb dX5_told_19 rfl (lv_at hl 0 rfl) ?_
    refine g_get (TT := TX5) hc hw inX5_told_X5 0 1 1 rfl rfl (by decide) rfl rfl dX5_told_20 ?_
    refine g_getN (TT := TX1) hc hw inX5_told_X1 1 1 6 rfl rfl (by decide) rfl rfl dX5_told_23 ?_
    refine lv_icmp_lt (tgt := 31) hx hb dX5_told_26 (by decide) (fun c_26 => ?_) (fun c_26 => absurd (nI_lt (hf1 k_6) (by omega)) c_26)
    refine lv_iload_n hx hb dX5_told_31 rfl (lv_at hl 3 rfl) ?_
    refine lv_iconst (v := 0) hx hb dX5_told_32 (by decide) ?_
    refine lv_iconst (v := 2) hx hb dX5_told_33 (by decide) ?_
    refine g_cS (As := [.int (nI k), .int 0, .int 2]) (n := 3) (rest := []) (wc := []) (w1 := []) (bytes := cX5_outside) (maxL := 3) (ret := (some .boolean)) hc hw hl.1 (m_X5_outside (l := l) (D := D) (E := E) (T := T) (nI k) 0 2) gX5_told_X5_outside rfl (by decide +kernel) (by rw [hR]; exact ⟨Nat.le_of_ble_eq_true rfl, Nat.le_of_ble_eq_true rfl⟩) [] (by decide) rfl [] rfl rfl rfl rfl (Nat.le_of_ble_eq_true rfl) dX5_told_34 ⟨Nat.zero_le _, Nat.zero_le _⟩ (fun H locs hw => ?_)
    have hw : g_W D A s [(ob, .inr (5, [z0, .ref pl, .ref h, z3, z4, z5, z6, z7, z8, z9, z10])), (pl, .inr (1, [.ref fa, .int (nI nf), .int (nI nw), u3, u4, u5, u6, u7, u8, u9])), (h, .inr (4, [v0, v1, .ref hq, v3, v4, v5, v6, v7, v8, v9, v10])), (fa, .inl (E 0, 18, .inl fl)), (hq, .inl (E 0, 18, .inl w9))] H locs := hw
    refine W.eq (congrArg (fun z => F0 m 37 ls (.int z :: [])) (show (b2i (outB (nI k) 0 2) : Int32) = 0 from (congrArg b2i (out_nf (n := k) (a := 0) (b := 2) (by omega) hk (by decide))))) ?_
    refine lv_if_eq (tgt := 43) hx hb dX5_told_37 (by decide) (fun c_37 => ?_) (fun c_37 => absurd c_37 (by decide))
    refine lv_iload_n hx hb dX5_told_43 rfl (lv_at hl 1 rfl) ?_
    refine lv_if_eq (tgt := 63) hx hb dX5_told_44 (by decide) (fun c_44 => ?_) (fun c_44 => absurd k_6 (by rw [show ww = true from b2i_ne c_44]; decide))
    refine lv_aload_n hx hb dX5_told_63 rfl (lv_at hl 0 rfl) ?_
    refine g_get (TT := TX5) hc hw inX5_told_X5 0 1 1 rfl rfl (by decide) rfl rfl dX5_told_64 ?_
    refine g_getN (TT := TX1) hc hw inX5_told_X1 1 0 4 rfl rfl (by decide) rfl rfl dX5_told_67 ?_
    refine lv_iload_n hx hb dX5_told_70 rfl (lv_at hl 2 rfl) ?_
    refine lv_iconst (v := 3) hx hb dX5_told_71 (by decide) ?_
    refine lv_imul hx hb dX5_told_72 ?_
    refine lv_iload_n hx hb dX5_told_73 rfl (lv_at hl 3 rfl) ?_
    refine lv_iadd hx hb dX5_told_74 ?_
    refine g_ild hc hw 3 ((r9 * 3) + k) rfl (n_add (n_mul rfl rfl) rfl) (by omega) (by decide) dX5_told_75 ?_
    exact g_iret hQ hc hw hr (by exact congrArg (fun z => some (Value.int z)) (if_neg (by rw [k_6]; decide))) rfl dX5_told_76
  · skip
    have k_6 := b2i_ne c_6
    refine lv_aload_n hx hb dX5_told_9 rfl (lv_at hl 0 rfl) ?_
    refine g_get (TT := TX5) hc hw inX5_told_X5 0 1 1 rfl rfl (by decide) rfl rfl dX5_told_10 ?_
    refine g_getN (TT := TX1) hc hw inX5_told_X1 1 2 8 rfl rfl (by decide) rfl rfl dX5_told_13 ?_
    refine lv_goto (tgt := 26) hx hb dX5_told_16 (by decide) ?_
    refine lv_icmp_lt (tgt := 31) hx hb dX5_told_26 (by decide) (fun c_26 => ?_) (fun c_26 => absurd (nI_lt (hw1 k_6) (by omega)) c_26)
    refine lv_iload_n hx hb dX5_told_31 rfl (lv_at hl 3 rfl) ?_
    refine lv_iconst (v := 0) hx hb dX5_told_32 (by decide) ?_
    refine lv_iconst (v := 2) hx hb dX5_told_33 (by decide) ?_
    refine g_cS (As := [.int (nI k), .int 0, .int 2]) (n := 3) (rest := []) (wc := []) (w1 := []) (bytes := cX5_outside) (maxL := 3) (ret := (some .boolean)) hc hw hl.1 (m_X5_outside (l := l) (D := D) (E := E) (T := T) (nI k) 0 2) gX5_told_X5_outside rfl (by decide +kernel) (by rw [hR]; exact ⟨Nat.le_of_ble_eq_true rfl, Nat.le_of_ble_eq_true rfl⟩) [] (by decide) rfl [] rfl rfl rfl rfl (Nat.le_of_ble_eq_true rfl) dX5_told_34 ⟨Nat.zero_le _, Nat.zero_le _⟩ (fun H locs hw => ?_)
    have hw : g_W D A s [(ob, .inr (5, [z0, .ref pl, .ref h, z3, z4, z5, z6, z7, z8, z9, z10])), (pl, .inr (1, [.ref fa, .int (nI nf), .int (nI nw), u3, u4, u5, u6, u7, u8, u9])), (h, .inr (4, [v0, v1, .ref hq, v3, v4, v5, v6, v7, v8, v9, v10])), (fa, .inl (E 0, 18, .inl fl)), (hq, .inl (E 0, 18, .inl w9))] H locs := hw
    refine W.eq (congrArg (fun z => F0 m 37 ls (.int z :: [])) (show (b2i (outB (nI k) 0 2) : Int32) = 0 from (congrArg b2i (out_nf (n := k) (a := 0) (b := 2) (by omega) hk (by decide))))) ?_
    refine lv_if_eq (tgt := 43) hx hb dX5_told_37 (by decide) (fun c_37 => ?_) (fun c_37 => absurd c_37 (by decide))
    refine lv_iload_n hx hb dX5_told_43 rfl (lv_at hl 1 rfl) ?_
    refine lv_if_eq (tgt := 63) hx hb dX5_told_44 (by decide) (fun c_44 => absurd k_6 (by rw [show ww = false from b2i_eq c_44]; decide)) (fun c_44 => ?_)
    refine lv_aload_n hx hb dX5_told_47 rfl (lv_at hl 0 rfl) ?_
    refine g_get (TT := TX5) hc hw inX5_told_X5 0 2 2 rfl rfl (by decide) rfl rfl dX5_told_48 ?_
    refine g_getN (TT := TX4) hc hw inX5_told_X4 2 2 22 rfl rfl (by decide) rfl rfl dX5_told_51 ?_
    refine lv_iload_n hx hb dX5_told_54 rfl (lv_at hl 2 rfl) ?_
    refine lv_iconst (v := 3) hx hb dX5_told_55 (by decide) ?_
    refine lv_imul hx hb dX5_told_56 ?_
    refine lv_iload_n hx hb dX5_told_57 rfl (lv_at hl 3 rfl) ?_
    refine lv_iadd hx hb dX5_told_58 ?_
    refine g_ild hc hw 4 ((r9 * 3) + k) rfl (n_add (n_mul rfl rfl) rfl) (by omega) (by decide) dX5_told_59 ?_
    refine lv_goto (tgt := 76) hx hb dX5_told_60 (by decide) ?_
    exact g_iret hQ hc hw hr (by exact congrArg (fun z => some (Value.int z)) (if_pos k_6)) rfl dX5_told_76

theorem dX5_momentum_0 : decode cX5_momentum 0 = .ok (.iload_n 1, 1) := by decide +kernel
theorem dX5_momentum_1 : decode cX5_momentum 1 = .ok (.iconst 0, 1) := by decide +kernel
theorem dX5_momentum_2 : decode cX5_momentum 2 = .ok (.bipush 6, 2) := by decide +kernel
theorem dX5_momentum_4 : decode cX5_momentum 4 = .ok (.invokestatic 59, 3) := by decide +kernel
theorem dX5_momentum_7 : decode cX5_momentum 7 = .ok (.ifCond .eq 6, 3) := by decide +kernel
theorem dX5_momentum_10 : decode cX5_momentum 10 = .ok (.bipush (-2), 2) := by decide +kernel
theorem dX5_momentum_12 : decode cX5_momentum 12 = .ok (.ireturn, 1) := by decide +kernel
set_option maxRecDepth 20000 in
theorem ggX5_momentum_X5_outside : GoodIn wsX5_momentum wsX5_outside := goodIn_r _ [5] rfl (by decide +kernel)
set_option maxRecDepth 20000 in
theorem gX5_momentum_X5_outside : GoodIn wsX5_momentum (va_wsS RX5 59 yX5_outside wsX5_outside) := goodIn_app (goodIn_of _ (by decide +kernel)) ggX5_momentum_X5_outside
set_option maxRecDepth 100000 in
set_option maxHeartbeats 4000000 in
theorem m_X5_momentum_out {l : Launch} {D : va_G} {E : Nat → ClassId} {T : Nat → Nat} (ob : Nat) (z0 : Value) (z1 : Value) (z2 : Value) (z3 : Value) (z4 : Value) (z5 : Value) (z6 : Value) (z7 : Value) (z8 : Value) (z9 : Value) (z10 : Value) (v : Int32) (ho : outB v 0 6 = true) : g_M l D E T yX5_momentum wsX5_momentum 1 22 [.ref ob, .int v] [(ob, .inr (5, [z0, z1, z2, z3, z4, z5, z6, z7, z8, z9, z10]))] [(ob, .inr (5, [z0, z1, z2, z3, z4, z5, z6, z7, z8, z9, z10]))] (some (.int (-2))) := by
  refine g_M.of (cc := cX5_momentum) (nL := 2) (ret := (some .int)) (own := RX5) (lv := [(0, .ref ob), (1, .int v)]) (by decide) rfl rfl (Nat.le_of_ble_eq_true rfl) rfl ?_
  intro p e R s m args below meth c A Q H locs ls hR hQ hc hr hw hl
  have hx := hc.1
  have hb := hc.2.1
  have hts := hc.2.2.2.1
  have hown := hc.2.2.2.2.1
  refine lv_iload_n hx hb dX5_momentum_0 rfl (lv_at hl 1 rfl) ?_
  refine lv_iconst (v := 0) hx hb dX5_momentum_1 (by decide) ?_
  refine lv_bipush (v := 6) hx hb dX5_momentum_2 (by decide) ?_
  refine g_cS (As := [.int v, .int 0, .int 6]) (n := 3) (rest := []) (wc := []) (w1 := []) (bytes := cX5_outside) (maxL := 3) (ret := (some .boolean)) hc hw hl.1 (m_X5_outside (l := l) (D := D) (E := E) (T := T) v 0 6) gX5_momentum_X5_outside rfl (by decide +kernel) (by rw [hR]; exact ⟨Nat.le_of_ble_eq_true rfl, Nat.le_of_ble_eq_true rfl⟩) [] (by decide) rfl [] rfl rfl rfl rfl (Nat.le_of_ble_eq_true rfl) dX5_momentum_4 ⟨Nat.zero_le _, Nat.zero_le _⟩ (fun H locs hw => ?_)
  have hw : g_W D A s [(ob, .inr (5, [z0, z1, z2, z3, z4, z5, z6, z7, z8, z9, z10]))] H locs := hw
  refine W.eq (congrArg (fun z => F0 m 7 ls (.int z :: [])) (show (b2i (outB v 0 6) : Int32) = 1 from (congrArg b2i ho))) ?_
  refine lv_if_eq (tgt := 13) hx hb dX5_momentum_7 (by decide) (fun c_7 => absurd c_7 (by decide)) (fun c_7 => ?_)
  refine lv_bipush (v := (-2)) hx hb dX5_momentum_10 (by decide) ?_
  exact g_iret hQ hc hw hr rfl rfl dX5_momentum_12

theorem dX5_momentum_13 : decode cX5_momentum 13 = .ok (.iload_n 1, 1) := by decide +kernel
theorem dX5_momentum_14 : decode cX5_momentum 14 = .ok (.bipush 6, 2) := by decide +kernel
theorem dX5_momentum_16 : decode cX5_momentum 16 = .ok (.if_icmp .ne 14, 3) := by decide +kernel
theorem dX5_momentum_19 : decode cX5_momentum 19 = .ok (.aload_n 0, 1) := by decide +kernel
theorem dX5_momentum_20 : decode cX5_momentum 20 = .ok (.getfield 26, 3) := by decide +kernel
theorem dX5_momentum_23 : decode cX5_momentum 23 = .ok (.getfield 118, 3) := by decide +kernel
theorem dX5_momentum_26 : decode cX5_momentum 26 = .ok (.invokestatic 96, 3) := by decide +kernel
theorem dX5_momentum_29 : decode cX5_momentum 29 = .ok (.ireturn, 1) := by decide +kernel
theorem dX5_momentum_30 : decode cX5_momentum 30 = .ok (.iload_n 1, 1) := by decide +kernel
theorem dX5_momentum_31 : decode cX5_momentum 31 = .ok (.iconst 3, 1) := by decide +kernel
theorem dX5_momentum_32 : decode cX5_momentum 32 = .ok (.if_icmp .ge 17, 3) := by decide +kernel
theorem dX5_momentum_35 : decode cX5_momentum 35 = .ok (.aload_n 0, 1) := by decide +kernel
theorem dX5_momentum_36 : decode cX5_momentum 36 = .ok (.getfield 26, 3) := by decide +kernel
theorem dX5_momentum_39 : decode cX5_momentum 39 = .ok (.iload_n 1, 1) := by decide +kernel
theorem dX5_momentum_40 : decode cX5_momentum 40 = .ok (.invokevirtual 122, 3) := by decide +kernel
theorem dX5_momentum_43 : decode cX5_momentum 43 = .ok (.invokestatic 96, 3) := by decide +kernel
theorem dX5_momentum_46 : decode cX5_momentum 46 = .ok (.goto 16, 3) := by decide +kernel
theorem dX5_momentum_49 : decode cX5_momentum 49 = .ok (.aload_n 0, 1) := by decide +kernel
theorem dX5_momentum_50 : decode cX5_momentum 50 = .ok (.getfield 26, 3) := by decide +kernel
theorem dX5_momentum_53 : decode cX5_momentum 53 = .ok (.iload_n 1, 1) := by decide +kernel
theorem dX5_momentum_54 : decode cX5_momentum 54 = .ok (.iconst 3, 1) := by decide +kernel
theorem dX5_momentum_55 : decode cX5_momentum 55 = .ok (.isub, 1) := by decide +kernel
theorem dX5_momentum_56 : decode cX5_momentum 56 = .ok (.invokevirtual 122, 3) := by decide +kernel
theorem dX5_momentum_59 : decode cX5_momentum 59 = .ok (.invokestatic 100, 3) := by decide +kernel
theorem dX5_momentum_62 : decode cX5_momentum 62 = .ok (.ireturn, 1) := by decide +kernel
set_option maxRecDepth 20000 in
theorem ggX5_momentum_X4_momentumAlong : GoodIn wsX5_momentum wsX4_momentumAlong := goodIn_r _ [17, 18, 34, 35, 36, 37, 38, 39, 40, 41, 42, 43, 44] rfl (by decide +kernel)
set_option maxRecDepth 20000 in
theorem ggX5_momentum_X5_thousandthsOf : GoodIn wsX5_momentum wsX5_thousandthsOf := goodIn_r _ [21, 22] rfl (by decide +kernel)
set_option maxRecDepth 20000 in
theorem gX5_momentum_X5_thousandthsOf : GoodIn wsX5_momentum (va_wsS RX5 100 yX5_thousandthsOf wsX5_thousandthsOf) := goodIn_app (goodIn_of _ (by decide +kernel)) ggX5_momentum_X5_thousandthsOf
set_option maxRecDepth 20000 in
theorem ggX5_momentum_X5_bitsOf : GoodIn wsX5_momentum wsX5_bitsOf := goodIn_r _ [8, 9, 10, 11, 12, 4, 13] rfl (by decide +kernel)
set_option maxRecDepth 20000 in
theorem gX5_momentum_X5_bitsOf : GoodIn wsX5_momentum (va_wsS RX5 96 yX5_bitsOf wsX5_bitsOf) := goodIn_app (goodIn_of _ (by decide +kernel)) ggX5_momentum_X5_bitsOf
theorem inX5_momentum_X4 : ∀ w ∈ u_ws RX4 TX4 11, w ∈ wsX5_momentum := fun w h => List.mem_cons_of_mem _ (List.mem_append_right _ h)
theorem inX5_momentum_X5 : ∀ w ∈ u_ws RX5 TX5 11, w ∈ wsX5_momentum := fun w h => List.mem_cons_of_mem _ (List.mem_append_left _ (List.mem_append_right _ h))
set_option maxRecDepth 100000 in
set_option maxHeartbeats 4000000 in
theorem m_X5_momentum {l : Launch} {D : va_G} {E : Nat → ClassId} {T : Nat → Nat} (ob : Nat) (h : Nat) (hs : Nat) (ht : Nat) (hq : Nat) (S : TS) (B : Nat) (z0 : Value) (z1 : Value) (z3 : Value) (z4 : Value) (z5 : Value) (z6 : Value) (z7 : Value) (z8 : Value) (z9 : Value) (z10 : Value) (k : Nat) (hok : OkS B S) (hk : k ≤ 6) : g_M l D E T yX5_momentum wsX5_momentum 2 43 [.ref ob, .int (nI k)] [(ob, .inr (5, [z0, z1, .ref h, z3, z4, z5, z6, z7, z8, z9, z10])), (h, .inr (4, [.ref hs, .ref ht, .ref hq, .int (nI (sD S)), .int (sM S), .float (sP S), .int (sI S), .int (sC S), .int (sA S), .int (sR S), .int (nI (sK S))])), (hs, .inl (E 1, 4, .inr (.inr (.inl (sF S))))), (ht, .inl (E 0, 4, .inl (sT S))), (hq, .inl (E 0, 18, .inl (sW S)))] [(ob, .inr (5, [z0, z1, .ref h, z3, z4, z5, z6, z7, z8, z9, z10])), (h, .inr (4, [.ref hs, .ref ht, .ref hq, .int (nI (sD S)), .int (sM S), .float (sP S), .int (sI S), .int (sC S), .int (sA S), .int (sR S), .int (nI (sK S))])), (hs, .inl (E 1, 4, .inr (.inr (.inl (sF S))))), (ht, .inl (E 0, 4, .inl (sT S))), (hq, .inl (E 0, 18, .inl (sW S)))] (some (.int (moA S k))) := by
  refine g_M.of (cc := cX5_momentum) (nL := 2) (ret := (some .int)) (own := RX5) (lv := [(0, .ref ob), (1, .int (nI k))]) (by decide) rfl rfl (Nat.le_of_ble_eq_true rfl) rfl ?_
  intro p e R s m args below meth c A Q H locs ls hR hQ hc hr hw hl
  have hx := hc.1
  have hb := hc.2.1
  have hts := hc.2.2.2.1
  have hown := hc.2.2.2.2.1
  refine lv_iload_n hx hb dX5_momentum_0 rfl (lv_at hl 1 rfl) ?_
  refine lv_iconst (v := 0) hx hb dX5_momentum_1 (by decide) ?_
  refine lv_bipush (v := 6) hx hb dX5_momentum_2 (by decide) ?_
  refine g_cS (As := [.int (nI k), .int 0, .int 6]) (n := 3) (rest := []) (wc := []) (w1 := []) (bytes := cX5_outside) (maxL := 3) (ret := (some .boolean)) hc hw hl.1 (m_X5_outside (l := l) (D := D) (E := E) (T := T) (nI k) 0 6) gX5_momentum_X5_outside rfl (by decide +kernel) (by rw [hR]; exact ⟨Nat.le_of_ble_eq_true rfl, Nat.le_of_ble_eq_true rfl⟩) [] (by decide) rfl [] rfl rfl rfl rfl (Nat.le_of_ble_eq_true rfl) dX5_momentum_4 ⟨Nat.zero_le _, Nat.zero_le _⟩ (fun H locs hw => ?_)
  have hw : g_W D A s [(ob, .inr (5, [z0, z1, .ref h, z3, z4, z5, z6, z7, z8, z9, z10])), (h, .inr (4, [.ref hs, .ref ht, .ref hq, .int (nI (sD S)), .int (sM S), .float (sP S), .int (sI S), .int (sC S), .int (sA S), .int (sR S), .int (nI (sK S))])), (hs, .inl (E 1, 4, .inr (.inr (.inl (sF S))))), (ht, .inl (E 0, 4, .inl (sT S))), (hq, .inl (E 0, 18, .inl (sW S)))] H locs := hw
  refine W.eq (congrArg (fun z => F0 m 7 ls (.int z :: [])) (show (b2i (outB (nI k) 0 6) : Int32) = 0 from (congrArg b2i (out_nf (n := k) (a := 0) (b := 6) (by omega) hk (by decide))))) ?_
  refine lv_if_eq (tgt := 13) hx hb dX5_momentum_7 (by decide) (fun c_7 => ?_) (fun c_7 => absurd c_7 (by decide))
  refine lv_iload_n hx hb dX5_momentum_13 rfl (lv_at hl 1 rfl) ?_
  refine lv_bipush (v := 6) hx hb dX5_momentum_14 (by decide) ?_
  refine lv_icmp_ne (tgt := 30) hx hb dX5_momentum_16 (by decide) (fun c_16 => ?_) (fun c_16 => ?_)
  · skip
    have n_16 : ¬ k = 6 := nf_neT rfl rfl (by omega) (by omega) c_16
    refine lv_iload_n hx hb dX5_momentum_30 rfl (lv_at hl 1 rfl) ?_
    refine lv_iconst (v := 3) hx hb dX5_momentum_31 (by decide) ?_
    refine lv_icmp_ge (tgt := 49) hx hb dX5_momentum_32 (by decide) (fun c_32 => ?_) (fun c_32 => ?_)
    · skip
      have n_32 : 3 ≤ k := nf_geT rfl rfl (by omega) (by omega) c_32
      refine lv_aload_n hx hb dX5_momentum_49 rfl (lv_at hl 0 rfl) ?_
      refine g_get (TT := TX5) hc hw inX5_momentum_X5 0 2 1 rfl rfl (by decide) rfl rfl dX5_momentum_50 ?_
      refine lv_iload_n hx hb dX5_momentum_53 rfl (lv_at hl 1 rfl) ?_
      refine lv_iconst (v := 3) hx hb dX5_momentum_54 (by decide) ?_
      refine lv_isub hx hb dX5_momentum_55 ?_
      refine W.eq (congrArg (fun z => F0 m 56 ls (.int z :: [.ref h])) (show ((nI k) - 3 : Int32) = nI (k - 3) from (n_sub (a := k) (b := 3) rfl rfl (by omega)))) ?_
      refine g_cVN (As := [.int (nI (k - 3))]) (n := 1) (rest := []) (wc := [(h, .inr (4, [.ref hs, .ref ht, .ref hq, .int (nI (sD S)), .int (sM S), .float (sP S), .int (sI S), .int (sC S), .int (sA S), .int (sR S), .int (nI (sK S))])), (hs, .inl (E 1, 4, .inr (.inr (.inl (sF S)))))]) (w1 := [(h, .inr (4, [.ref hs, .ref ht, .ref hq, .int (nI (sD S)), .int (sM S), .float (sP S), .int (sI S), .int (sC S), .int (sA S), .int (sR S), .int (nI (sK S))])), (hs, .inl (E 1, 4, .inr (.inr (.inl (sF S)))))]) (bytes := cX4_momentumAlong) (maxL := 2) (ret := (some .float)) hc hw hl.1 (m_X4_momentumAlong (l := l) (D := D) (E := E) (T := T) h (.ref ht) (.ref hq) (.int (nI (sD S))) (.int (sM S)) (.float (sP S)) (.int (sI S)) (.int (sC S)) (.int (sA S)) (.int (sR S)) (.int (nI (sK S))) hs (sF S) (k - 3) hok.f (by omega)) ggX5_momentum_X4_momentumAlong rfl 53 rfl 15 14 16 rfl rfl rfl (by decide +kernel) (by rw [hR]; exact ⟨Nat.le_of_ble_eq_true rfl, Nat.le_of_ble_eq_true rfl⟩) [1, 2] 1 4 rfl rfl (by decide) rfl [h, hs] rfl rfl rfl rfl (Nat.le_of_ble_eq_true rfl) dX5_momentum_56 ⟨Nat.zero_le _, Nat.zero_le _⟩ (fun H locs hw => ?_)
      have hw : g_W D A s [(ob, .inr (5, [z0, z1, .ref h, z3, z4, z5, z6, z7, z8, z9, z10])), (h, .inr (4, [.ref hs, .ref ht, .ref hq, .int (nI (sD S)), .int (sM S), .float (sP S), .int (sI S), .int (sC S), .int (sA S), .int (sR S), .int (nI (sK S))])), (hs, .inl (E 1, 4, .inr (.inr (.inl (sF S))))), (ht, .inl (E 0, 4, .inl (sT S))), (hq, .inl (E 0, 18, .inl (sW S)))] H locs := hw
      refine g_cS (As := [.float (moF (sF S) (k - 3))]) (n := 1) (rest := []) (wc := []) (w1 := []) (bytes := cX5_thousandthsOf) (maxL := 1) (ret := (some .int)) hc hw hl.1 (m_X5_thousandthsOf (l := l) (D := D) (E := E) (T := T) (moF (sF S) (k - 3)) ((hok.mo (show k - 3 < 3 by omega)).1)) gX5_momentum_X5_thousandthsOf rfl (by decide +kernel) (by rw [hR]; exact ⟨Nat.le_of_ble_eq_true rfl, Nat.le_of_ble_eq_true rfl⟩) [] (by decide) rfl [] rfl rfl rfl rfl (Nat.le_of_ble_eq_true rfl) dX5_momentum_59 ⟨Nat.zero_le _, Nat.zero_le _⟩ (fun H locs hw => ?_)
      have hw : g_W D A s [(ob, .inr (5, [z0, z1, .ref h, z3, z4, z5, z6, z7, z8, z9, z10])), (h, .inr (4, [.ref hs, .ref ht, .ref hq, .int (nI (sD S)), .int (sM S), .float (sP S), .int (sI S), .int (sC S), .int (sA S), .int (sR S), .int (nI (sK S))])), (hs, .inl (E 1, 4, .inr (.inr (.inl (sF S))))), (ht, .inl (E 0, 4, .inl (sT S))), (hq, .inl (E 0, 18, .inl (sW S)))] H locs := hw
      exact g_iret hQ hc hw hr (by exact congrArg (fun z => some (Value.int z)) (by unfold moA; rw [if_neg n_16, if_neg (by omega)])) rfl dX5_momentum_62
    · skip
      have n_32 : k < 3 := nf_geF rfl rfl (by omega) (by omega) c_32
      refine lv_aload_n hx hb dX5_momentum_35 rfl (lv_at hl 0 rfl) ?_
      refine g_get (TT := TX5) hc hw inX5_momentum_X5 0 2 1 rfl rfl (by decide) rfl rfl dX5_momentum_36 ?_
      refine lv_iload_n hx hb dX5_momentum_39 rfl (lv_at hl 1 rfl) ?_
      refine g_cVN (As := [.int (nI k)]) (n := 1) (rest := []) (wc := [(h, .inr (4, [.ref hs, .ref ht, .ref hq, .int (nI (sD S)), .int (sM S), .float (sP S), .int (sI S), .int (sC S), .int (sA S), .int (sR S), .int (nI (sK S))])), (hs, .inl (E 1, 4, .inr (.inr (.inl (sF S)))))]) (w1 := [(h, .inr (4, [.ref hs, .ref ht, .ref hq, .int (nI (sD S)), .int (sM S), .float (sP S), .int (sI S), .int (sC S), .int (sA S), .int (sR S), .int (nI (sK S))])), (hs, .inl (E 1, 4, .inr (.inr (.inl (sF S)))))]) (bytes := cX4_momentumAlong) (maxL := 2) (ret := (some .float)) hc hw hl.1 (m_X4_momentumAlong (l := l) (D := D) (E := E) (T := T) h (.ref ht) (.ref hq) (.int (nI (sD S))) (.int (sM S)) (.float (sP S)) (.int (sI S)) (.int (sC S)) (.int (sA S)) (.int (sR S)) (.int (nI (sK S))) hs (sF S) k hok.f (by omega)) ggX5_momentum_X4_momentumAlong rfl 53 rfl 15 14 16 rfl rfl rfl (by decide +kernel) (by rw [hR]; exact ⟨Nat.le_of_ble_eq_true rfl, Nat.le_of_ble_eq_true rfl⟩) [1, 2] 1 4 rfl rfl (by decide) rfl [h, hs] rfl rfl rfl rfl (Nat.le_of_ble_eq_true rfl) dX5_momentum_40 ⟨Nat.zero_le _, Nat.zero_le _⟩ (fun H locs hw => ?_)
      have hw : g_W D A s [(ob, .inr (5, [z0, z1, .ref h, z3, z4, z5, z6, z7, z8, z9, z10])), (h, .inr (4, [.ref hs, .ref ht, .ref hq, .int (nI (sD S)), .int (sM S), .float (sP S), .int (sI S), .int (sC S), .int (sA S), .int (sR S), .int (nI (sK S))])), (hs, .inl (E 1, 4, .inr (.inr (.inl (sF S))))), (ht, .inl (E 0, 4, .inl (sT S))), (hq, .inl (E 0, 18, .inl (sW S)))] H locs := hw
      refine g_cS (As := [.float (moF (sF S) k)]) (n := 1) (rest := []) (wc := []) (w1 := []) (bytes := cX5_bitsOf) (maxL := 4) (ret := (some .int)) hc hw hl.1 (m_X5_bitsOf (l := l) (D := D) (E := E) (T := T) (moF (sF S) k) (g_mgW (hok.mo n_32).1 (by decide)) ((hok.mo n_32).2)) gX5_momentum_X5_bitsOf rfl (by decide +kernel) (by rw [hR]; exact ⟨Nat.le_of_ble_eq_true rfl, Nat.le_of_ble_eq_true rfl⟩) [] (by decide) rfl [] rfl rfl rfl rfl (Nat.le_of_ble_eq_true rfl) dX5_momentum_43 ⟨Nat.zero_le _, Nat.zero_le _⟩ (fun H locs hw => ?_)
      have hw : g_W D A s [(ob, .inr (5, [z0, z1, .ref h, z3, z4, z5, z6, z7, z8, z9, z10])), (h, .inr (4, [.ref hs, .ref ht, .ref hq, .int (nI (sD S)), .int (sM S), .float (sP S), .int (sI S), .int (sC S), .int (sA S), .int (sR S), .int (nI (sK S))])), (hs, .inl (E 1, 4, .inr (.inr (.inl (sF S))))), (ht, .inl (E 0, 4, .inl (sT S))), (hq, .inl (E 0, 18, .inl (sW S)))] H locs := hw
      refine lv_goto (tgt := 62) hx hb dX5_momentum_46 (by decide) ?_
      exact g_iret hQ hc hw hr (by exact congrArg (fun z => some (Value.int z)) (by unfold moA; rw [if_neg n_16, if_pos n_32])) rfl dX5_momentum_62
  · skip
    have n_16 : k = 6 := nf_neF rfl rfl (by omega) (by omega) c_16
    refine lv_aload_n hx hb dX5_momentum_19 rfl (lv_at hl 0 rfl) ?_
    refine g_get (TT := TX5) hc hw inX5_momentum_X5 0 2 1 rfl rfl (by decide) rfl rfl dX5_momentum_20 ?_
    refine g_getN (TT := TX4) hc hw inX5_momentum_X4 1 5 30 rfl rfl (by decide) rfl rfl dX5_momentum_23 ?_
    refine g_cS (As := [.float (sP S)]) (n := 1) (rest := []) (wc := []) (w1 := []) (bytes := cX5_bitsOf) (maxL := 4) (ret := (some .int)) hc hw hl.1 (m_X5_bitsOf (l := l) (D := D) (E := E) (T := T) (sP S) (g_mgW hok.sp (by decide)) (spO_nz hok.2.2.2.2.2.1)) gX5_momentum_X5_bitsOf rfl (by decide +kernel) (by rw [hR]; exact ⟨Nat.le_of_ble_eq_true rfl, Nat.le_of_ble_eq_true rfl⟩) [] (by decide) rfl [] rfl rfl rfl rfl (Nat.le_of_ble_eq_true rfl) dX5_momentum_26 ⟨Nat.zero_le _, Nat.zero_le _⟩ (fun H locs hw => ?_)
    have hw : g_W D A s [(ob, .inr (5, [z0, z1, .ref h, z3, z4, z5, z6, z7, z8, z9, z10])), (h, .inr (4, [.ref hs, .ref ht, .ref hq, .int (nI (sD S)), .int (sM S), .float (sP S), .int (sI S), .int (sC S), .int (sA S), .int (sR S), .int (nI (sK S))])), (hs, .inl (E 1, 4, .inr (.inr (.inl (sF S))))), (ht, .inl (E 0, 4, .inl (sT S))), (hq, .inl (E 0, 18, .inl (sW S)))] H locs := hw
    exact g_iret hQ hc hw hr (by exact congrArg (fun z => some (Value.int z)) (by unfold moA; rw [if_pos n_16])) rfl dX5_momentum_29
end P19
