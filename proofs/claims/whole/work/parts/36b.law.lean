/-! MY ROWS 12: the law, case by case -/
section GLaw
abbrev LW (E : Nat → ClassId) (a : Nat → Nat) (f : Nat → Nat → Nat) (bb : Nat → Nat) (c : CS) (r : RS) : va_W := CW E a f c ++ RW E bb r
abbrev lwA (s : State) : Nat → Prop := fun q : Nat => s.heap.size ≤ q
theorem CW_len (E : Nat → ClassId) (a : Nat → Nat) (f : Nat → Nat → Nat) (c : CS) : (CW E a f c).length = 93 := rfl
theorem RW_len (E : Nat → ClassId) (b : Nat → Nat) (r : RS) : (RW E b r).length = 25 := rfl
theorem LW_x (E : Nat → ClassId) (a : Nat → Nat) (f : Nat → Nat → Nat) (bb : Nat → Nat) (c : CS) (r : RS) : (List.range' 0 93).map (fun i => (LW E a f bb c r)[i]?) = (CW E a f c).map some := by
  have h := blk_one (LW E a f bb c r) 0 93 (by show 0 + 93 ≤ (CW E a f c ++ RW E bb r).length; rw [List.length_append, CW_len, RW_len]; decide)
  rw [h, List.drop_zero, List.take_append_of_le_length (Nat.le_of_eq (CW_len E a f c).symm), List.take_of_length_le (Nat.le_of_eq (CW_len E a f c))]
theorem LW_y (E : Nat → ClassId) (a : Nat → Nat) (f : Nat → Nat → Nat) (bb : Nat → Nat) (c : CS) (r : RS) : (List.range' 93 25).map (fun i => (LW E a f bb c r)[i]?) = (RW E bb r).map some := by
  have h := blk_one (LW E a f bb c r) 93 25 (by show 93 + 25 ≤ (CW E a f c ++ RW E bb r).length; rw [List.length_append, CW_len, RW_len]; decide)
  rw [h, List.drop_left' (CW_len E a f c), List.take_of_length_le (Nat.le_of_eq (RW_len E bb r))]
theorem LW_setx (E : Nat → ClassId) (a : Nat → Nat) (f : Nat → Nat → Nat) (bb : Nat → Nat) (c c1 : CS) (r : RS) : g_set (LW E a f bb c r) (List.range' 0 93) (CW E a f c1) = LW E a f bb c1 r :=
  g_set_blk (CW E a f c) (CW E a f c1) [] (RW E bb r) rfl
theorem LW_sety (E : Nat → ClassId) (a : Nat → Nat) (f : Nat → Nat → Nat) (bb : Nat → Nat) (c : CS) (r r1 : RS) : g_set (LW E a f bb c r) (List.range' 93 25) (RW E bb r1) = LW E a f bb c r1 := by
  have h := g_set_blk (RW E bb r) (RW E bb r1) (CW E a f c) [] rfl
  rw [List.append_nil, List.append_nil] at h
  exact h
theorem n_inc5 {x : Int32} {a : Nat} (hx : x = nI a) : x + Int32.ofInt 5 = nI (a + 5) := by
  rw [hx]
  exact nI_add a 5
theorem law_in {L n k : Nat} {v : Int32} (hv : v = nI k) (h : n + k < L) (hL : L ≤ 2560) : vp_in (nI n + v) L := by
  rw [hv, nI_add]
  exact vp_in_nI h (by omega)
theorem lg_cmp0 (v : Int64) : lg_cmp v v = 0 := by
  have h : ¬ v < v := Int64.lt_irrefl
  have h2 : ¬ v > v := h
  simp [lg_cmp, h, h2]
variable {p : Program} {l : Launch} {e : Env} {s : State} {m : MethodId} {b : Nat} {below : List Frame} {meth : Method} {cd : Code} {H : Heap} {locs : List Loc} {Q : State → Prop}
variable {D : va_G} {E : Nat → ClassId} {T : Nat → Nat} {a : Nat → Nat} {f : Nat → Nat → Nat} {bb : Nat → Nat} {c : CS} {r : RS} {ls : Array Slot} {L t : Nat} {xs : Nat → Int32}
theorem law_x {y : MethodName} {wy wy' : List Cond} {fr lo maxL index n pc : Nat} {bytes : ByteArray} {ret9 : Option FieldType} {As rest st0 : List Value} {o : Value} {PC : CS → Prop} (hc : g_C p s m #[Value.ref b] meth cd code RL wsL_law 4 D E T (lwA s)) (hw : g_W D (lwA s) s (LW E a f bb c r) H locs) (hl : ls.size = 4) (hM : g_ME l D E T y wy fr lo (.ref (a 0) :: As) (CW E a f c) (fun u : {z : CS // PC z} => CW E a f u.1) (some o)) (hT : GoodIn wsL_law (wsV RL index RX5 y wy)) (hwy : wy = Cond.code y bytes maxL ret9 :: wy') (hd : y.cls = RX5 ∧ y.cls ≠ "java/lang/invoke/MethodHandle" ∧ y.cls ≠ "java/lang/invoke/VarHandle" ∧ (parseMethodDescriptor y.desc).map (fun d => d.parameters.length) = some n) (hf : fr ≤ 11) (hlo : lo ≤ 400) (hmx : maxL ≤ 20) (hlen : As.length = n) (hst : st0 = As.reverse ++ .ref (a 0) :: rest) (hcat : (rest.map fun v => v.category).sum ≤ 8) (hdg : decode code pc = .ok (.invokevirtual index, 3))
    (kk : ∀ (c1 : CS) (H1 : Heap) (locs1 : List Loc), PC c1 → g_W D (lwA s) s (LW E a f bb c1 r) H1 locs1 → W p l e room_1 s m #[Value.ref b] below meth cd H1 locs1 118 1827 Q (F0 m (pc + 3) ls (o :: rest))) : W p l e room_1 s m #[Value.ref b] below meth cd H locs 118 1827 Q (F0 m pc ls st0) :=
  g_cEV (C := RX5) (n := n) hc hw hl hM hT hwy hd ⟨by show fr + 1 ≤ 12; omega, by show 8 + (maxL + 11) + lo ≤ 488; omega⟩ (List.range' 0 93) 0 5 (TT := TX5) (N := 11) rfl rfl (by decide +kernel) (LW_x E a f bb c r) ((CW E a f c).map (fun q => q.1)) (fun _ => rfl) rfl hlen hst hcat hdg ⟨by decide, by decide⟩ (fun u H1 locs1 hw1 => kk u.1 H1 locs1 u.2 (by rw [← LW_setx E a f bb c u.1 r]; exact hw1))
theorem law_y {y : MethodName} {wy wy' : List Cond} {fr lo maxL index n pc : Nat} {bytes : ByteArray} {ret9 : Option FieldType} {As rest st0 : List Value} {o : Value} {PR : RS → Prop} (hc : g_C p s m #[Value.ref b] meth cd code RL wsL_law 4 D E T (lwA s)) (hw : g_W D (lwA s) s (LW E a f bb c r) H locs) (hl : ls.size = 4) (hM : g_ME l D E T y wy fr lo (.ref (bb 0) :: As) (RW E bb r) (fun u : {z : RS // PR z} => RW E bb u.1) (some o)) (hT : GoodIn wsL_law (wsV RL index RX6 y wy)) (hwy : wy = Cond.code y bytes maxL ret9 :: wy') (hd : y.cls = RX6 ∧ y.cls ≠ "java/lang/invoke/MethodHandle" ∧ y.cls ≠ "java/lang/invoke/VarHandle" ∧ (parseMethodDescriptor y.desc).map (fun d => d.parameters.length) = some n) (hf : fr ≤ 11) (hlo : lo ≤ 400) (hmx : maxL ≤ 20) (hlen : As.length = n) (hst : st0 = As.reverse ++ .ref (bb 0) :: rest) (hcat : (rest.map fun v => v.category).sum ≤ 8) (hdg : decode code pc = .ok (.invokevirtual index, 3))
    (kk : ∀ (r1 : RS) (H1 : Heap) (locs1 : List Loc), PR r1 → g_W D (lwA s) s (LW E a f bb c r1) H1 locs1 → W p l e room_1 s m #[Value.ref b] below meth cd H1 locs1 118 1827 Q (F0 m (pc + 3) ls (o :: rest))) : W p l e room_1 s m #[Value.ref b] below meth cd H locs 118 1827 Q (F0 m pc ls st0) :=
  g_cEV (C := RX6) (n := n) hc hw hl hM hT hwy hd ⟨by show fr + 1 ≤ 12; omega, by show 8 + (maxL + 11) + lo ≤ 488; omega⟩ (List.range' 93 25) 93 6 (TT := TX6) (N := 36) rfl rfl (by decide +kernel) (LW_y E a f bb c r) ((RW E bb r).map (fun q => q.1)) (fun _ => rfl) rfl hlen hst hcat hdg ⟨by decide, by decide⟩ (fun u H1 locs1 hw1 => kk u.1 H1 locs1 u.2 (by rw [← LW_sety E a f bb c r u.1]; exact hw1))
set_option maxHeartbeats 4000000 in
theorem law_c0 (hc : g_C p s m #[Value.ref b] meth cd code RL wsL_law 4 D E T (lwA s)) (hX : va_X b L xs s s.heap) (hbl : b < s.heap.size) (ht : 5 * t + 5 ≤ L) (hL : L ≤ 2560) (hi : Inv (99 * t) c r) (hw : g_W D (lwA s) s (LW E a f bb c r) H locs) (hl : lv_has ls 4 [(0, .ref b), (1, .ref (a 0)), (2, .ref (bb 0)), (3, .int (nI (5 * t)))])
    (kk : ∀ (c1 : CS) (r1 : RS) (H1 : Heap) (locs1 : List Loc), Inv (99 * t + 99) c1 r1 → g_W D (lwA s) s (LW E a f bb c1 r1) H1 locs1 → W p l e room_1 s m #[Value.ref b] below meth cd H1 locs1 118 1827 Q (F0 m 1071 ls [])) : W p l e room_1 s m #[Value.ref b] below meth cd H locs 118 1827 Q (F0 m 176 ls []) := by
  have hx := hc.1
  have hb := hc.2.1
  have hB : 99 * t + 400 < 2 ^ 31 := by omega
  have hbA : ¬ lwA s b := Nat.not_le.mpr hbl
  refine lv_aload_n hx hb dL_law_176 rfl (lv_at hl 1 rfl) ?_
  refine lv_aload_n hx hb dL_law_177 rfl (lv_at hl 0 rfl) ?_
  refine lv_iload_n hx hb dL_law_178 rfl (lv_at hl 3 rfl) ?_
  refine lv_iconst (v := 1) hx hb dL_law_179 (by decide) ?_
  refine lv_iadd hx hb dL_law_180 ?_
  refine va_sld hx hb hX hbl hbA hw.2.2 (law_in (k := 1) rfl (by omega) hL) dL_law_181 ?_
  obtain ⟨o, PC, PR, f1, l1, f2, l2, ⟨b1, b2, b3, b4⟩, hC9, hR9, hI, v, rfl⟩ := St_write (l := l) (D := D) (E := E) (T := T) (a := a) (f := f) (b := bb) hi hB (xs (nI (5 * t) + 1).toNatClampNeg)
  refine law_x (n := 1) (As := [.int (xs (nI (5 * t) + 1).toNatClampNeg)]) (rest := []) hc hw hl.1 hC9 gL_law_X5_write rfl ⟨rfl, by decide +kernel, by decide +kernel, by decide +kernel⟩ b1 b2 (by decide) rfl rfl (Nat.le_of_ble_eq_true rfl) dL_law_182 (fun c1 H locs hPC hw => ?_)
  refine lv_aload_n hx hb dL_law_185 rfl (lv_at hl 2 rfl) ?_
  refine lv_aload_n hx hb dL_law_186 rfl (lv_at hl 0 rfl) ?_
  refine lv_iload_n hx hb dL_law_187 rfl (lv_at hl 3 rfl) ?_
  refine lv_iconst (v := 1) hx hb dL_law_188 (by decide) ?_
  refine lv_iadd hx hb dL_law_189 ?_
  refine va_sld hx hb hX hbl hbA hw.2.2 (law_in (k := 1) rfl (by omega) hL) dL_law_190 ?_
  refine law_y (n := 1) (As := [.int (xs (nI (5 * t) + 1).toNatClampNeg)]) (rest := [.int v]) hc hw hl.1 hR9 gL_law_X6_write rfl ⟨rfl, by decide +kernel, by decide +kernel, by decide +kernel⟩ b3 b4 (by decide) rfl rfl (Nat.le_of_ble_eq_true rfl) dL_law_191 (fun r1 H locs hPR hw => ?_)
  refine lv_icmp_eq (tgt := 1071) hx hb dL_law_194 (by decide) (fun _ => ?_) (fun q => absurd rfl q)
  exact kk c1 r1 H locs (hI c1 r1 hPC hPR) hw
set_option maxHeartbeats 4000000 in
theorem law_c1 (hc : g_C p s m #[Value.ref b] meth cd code RL wsL_law 4 D E T (lwA s)) (hX : va_X b L xs s s.heap) (hbl : b < s.heap.size) (ht : 5 * t + 5 ≤ L) (hL : L ≤ 2560) (hi : Inv (99 * t) c r) (hw : g_W D (lwA s) s (LW E a f bb c r) H locs) (hl : lv_has ls 4 [(0, .ref b), (1, .ref (a 0)), (2, .ref (bb 0)), (3, .int (nI (5 * t)))])
    (kk : ∀ (c1 : CS) (r1 : RS) (H1 : Heap) (locs1 : List Loc), Inv (99 * t + 99) c1 r1 → g_W D (lwA s) s (LW E a f bb c1 r1) H1 locs1 → W p l e room_1 s m #[Value.ref b] below meth cd H1 locs1 118 1827 Q (F0 m 1071 ls [])) : W p l e room_1 s m #[Value.ref b] below meth cd H locs 118 1827 Q (F0 m 199 ls []) := by
  have hx := hc.1
  have hb := hc.2.1
  have hB : 99 * t + 400 < 2 ^ 31 := by omega
  have hbA : ¬ lwA s b := Nat.not_le.mpr hbl
  refine lv_aload_n hx hb dL_law_199 rfl (lv_at hl 1 rfl) ?_
  obtain ⟨o, PC, PR, f1, l1, f2, l2, ⟨b1, b2, b3, b4⟩, hC9, hR9, hI, v, rfl⟩ := St_wipe (l := l) (D := D) (E := E) (T := T) (a := a) (f := f) (b := bb) hi hB 
  refine law_x (n := 0) (As := []) (rest := []) hc hw hl.1 hC9 gL_law_X5_wipe rfl ⟨rfl, by decide +kernel, by decide +kernel, by decide +kernel⟩ b1 b2 (by decide) rfl rfl (Nat.le_of_ble_eq_true rfl) dL_law_200 (fun c1 H locs hPC hw => ?_)
  refine lv_aload_n hx hb dL_law_203 rfl (lv_at hl 2 rfl) ?_
  refine law_y (n := 0) (As := []) (rest := [.int v]) hc hw hl.1 hR9 gL_law_X6_wipe rfl ⟨rfl, by decide +kernel, by decide +kernel, by decide +kernel⟩ b3 b4 (by decide) rfl rfl (Nat.le_of_ble_eq_true rfl) dL_law_204 (fun r1 H locs hPR hw => ?_)
  refine lv_icmp_eq (tgt := 1071) hx hb dL_law_207 (by decide) (fun _ => ?_) (fun q => absurd rfl q)
  exact kk c1 r1 H locs (hI c1 r1 hPC hPR) hw
set_option maxHeartbeats 4000000 in
theorem law_c2 (hc : g_C p s m #[Value.ref b] meth cd code RL wsL_law 4 D E T (lwA s)) (hX : va_X b L xs s s.heap) (hbl : b < s.heap.size) (ht : 5 * t + 5 ≤ L) (hL : L ≤ 2560) (hi : Inv (99 * t) c r) (hw : g_W D (lwA s) s (LW E a f bb c r) H locs) (hl : lv_has ls 4 [(0, .ref b), (1, .ref (a 0)), (2, .ref (bb 0)), (3, .int (nI (5 * t)))])
    (kk : ∀ (c1 : CS) (r1 : RS) (H1 : Heap) (locs1 : List Loc), Inv (99 * t + 99) c1 r1 → g_W D (lwA s) s (LW E a f bb c1 r1) H1 locs1 → W p l e room_1 s m #[Value.ref b] below meth cd H1 locs1 118 1827 Q (F0 m 1071 ls [])) : W p l e room_1 s m #[Value.ref b] below meth cd H locs 118 1827 Q (F0 m 212 ls []) := by
  have hx := hc.1
  have hb := hc.2.1
  have hB : 99 * t + 400 < 2 ^ 31 := by omega
  have hbA : ¬ lwA s b := Nat.not_le.mpr hbl
  refine lv_aload_n hx hb dL_law_212 rfl (lv_at hl 1 rfl) ?_
  obtain ⟨o, PC, PR, f1, l1, f2, l2, ⟨b1, b2, b3, b4⟩, hC9, hR9, hI, v, rfl⟩ := St_fault (l := l) (D := D) (E := E) (T := T) (a := a) (f := f) (b := bb) hi hB 
  refine law_x (n := 0) (As := []) (rest := []) hc hw hl.1 hC9 gL_law_X5_fault rfl ⟨rfl, by decide +kernel, by decide +kernel, by decide +kernel⟩ b1 b2 (by decide) rfl rfl (Nat.le_of_ble_eq_true rfl) dL_law_213 (fun c1 H locs hPC hw => ?_)
  refine lv_aload_n hx hb dL_law_216 rfl (lv_at hl 2 rfl) ?_
  refine law_y (n := 0) (As := []) (rest := [.int v]) hc hw hl.1 hR9 gL_law_X6_fault rfl ⟨rfl, by decide +kernel, by decide +kernel, by decide +kernel⟩ b3 b4 (by decide) rfl rfl (Nat.le_of_ble_eq_true rfl) dL_law_217 (fun r1 H locs hPR hw => ?_)
  refine lv_icmp_eq (tgt := 1071) hx hb dL_law_220 (by decide) (fun _ => ?_) (fun q => absurd rfl q)
  exact kk c1 r1 H locs (hI c1 r1 hPC hPR) hw
set_option maxHeartbeats 4000000 in
theorem law_c3 (hc : g_C p s m #[Value.ref b] meth cd code RL wsL_law 4 D E T (lwA s)) (hX : va_X b L xs s s.heap) (hbl : b < s.heap.size) (ht : 5 * t + 5 ≤ L) (hL : L ≤ 2560) (hi : Inv (99 * t) c r) (hw : g_W D (lwA s) s (LW E a f bb c r) H locs) (hl : lv_has ls 4 [(0, .ref b), (1, .ref (a 0)), (2, .ref (bb 0)), (3, .int (nI (5 * t)))])
    (kk : ∀ (c1 : CS) (r1 : RS) (H1 : Heap) (locs1 : List Loc), Inv (99 * t + 99) c1 r1 → g_W D (lwA s) s (LW E a f bb c1 r1) H1 locs1 → W p l e room_1 s m #[Value.ref b] below meth cd H1 locs1 118 1827 Q (F0 m 1071 ls [])) : W p l e room_1 s m #[Value.ref b] below meth cd H locs 118 1827 Q (F0 m 225 ls []) := by
  have hx := hc.1
  have hb := hc.2.1
  have hB : 99 * t + 400 < 2 ^ 31 := by omega
  have hbA : ¬ lwA s b := Nat.not_le.mpr hbl
  refine lv_aload_n hx hb dL_law_225 rfl (lv_at hl 1 rfl) ?_
  obtain ⟨o, PC, PR, f1, l1, f2, l2, ⟨b1, b2, b3, b4⟩, hC9, hR9, hI, v, rfl⟩ := St_craft (l := l) (D := D) (E := E) (T := T) (a := a) (f := f) (b := bb) hi hB 
  refine law_x (n := 0) (As := []) (rest := []) hc hw hl.1 hC9 gL_law_X5_craft rfl ⟨rfl, by decide +kernel, by decide +kernel, by decide +kernel⟩ b1 b2 (by decide) rfl rfl (Nat.le_of_ble_eq_true rfl) dL_law_226 (fun c1 H locs hPC hw => ?_)
  refine lv_aload_n hx hb dL_law_229 rfl (lv_at hl 2 rfl) ?_
  refine law_y (n := 0) (As := []) (rest := [.int v]) hc hw hl.1 hR9 gL_law_X6_craft rfl ⟨rfl, by decide +kernel, by decide +kernel, by decide +kernel⟩ b3 b4 (by decide) rfl rfl (Nat.le_of_ble_eq_true rfl) dL_law_230 (fun r1 H locs hPR hw => ?_)
  refine lv_icmp_eq (tgt := 1071) hx hb dL_law_233 (by decide) (fun _ => ?_) (fun q => absurd rfl q)
  exact kk c1 r1 H locs (hI c1 r1 hPC hPR) hw
set_option maxHeartbeats 4000000 in
theorem law_c4 (hc : g_C p s m #[Value.ref b] meth cd code RL wsL_law 4 D E T (lwA s)) (hX : va_X b L xs s s.heap) (hbl : b < s.heap.size) (ht : 5 * t + 5 ≤ L) (hL : L ≤ 2560) (hi : Inv (99 * t) c r) (hw : g_W D (lwA s) s (LW E a f bb c r) H locs) (hl : lv_has ls 4 [(0, .ref b), (1, .ref (a 0)), (2, .ref (bb 0)), (3, .int (nI (5 * t)))])
    (kk : ∀ (c1 : CS) (r1 : RS) (H1 : Heap) (locs1 : List Loc), Inv (99 * t + 99) c1 r1 → g_W D (lwA s) s (LW E a f bb c1 r1) H1 locs1 → W p l e room_1 s m #[Value.ref b] below meth cd H1 locs1 118 1827 Q (F0 m 1071 ls [])) : W p l e room_1 s m #[Value.ref b] below meth cd H locs 118 1827 Q (F0 m 238 ls []) := by
  have hx := hc.1
  have hb := hc.2.1
  have hB : 99 * t + 400 < 2 ^ 31 := by omega
  have hbA : ¬ lwA s b := Nat.not_le.mpr hbl
  refine lv_aload_n hx hb dL_law_238 rfl (lv_at hl 1 rfl) ?_
  refine lv_aload_n hx hb dL_law_239 rfl (lv_at hl 0 rfl) ?_
  refine lv_iload_n hx hb dL_law_240 rfl (lv_at hl 3 rfl) ?_
  refine lv_iconst (v := 1) hx hb dL_law_241 (by decide) ?_
  refine lv_iadd hx hb dL_law_242 ?_
  refine va_sld hx hb hX hbl hbA hw.2.2 (law_in (k := 1) rfl (by omega) hL) dL_law_243 ?_
  refine lv_aload_n hx hb dL_law_244 rfl (lv_at hl 0 rfl) ?_
  refine lv_iload_n hx hb dL_law_245 rfl (lv_at hl 3 rfl) ?_
  refine lv_iconst (v := 2) hx hb dL_law_246 (by decide) ?_
  refine lv_iadd hx hb dL_law_247 ?_
  refine va_sld hx hb hX hbl hbA hw.2.2 (law_in (k := 2) rfl (by omega) hL) dL_law_248 ?_
  obtain ⟨o, PC, PR, f1, l1, f2, l2, ⟨b1, b2, b3, b4⟩, hC9, hR9, hI, v, rfl⟩ := St_wheel (l := l) (D := D) (E := E) (T := T) (a := a) (f := f) (b := bb) hi hB (xs (nI (5 * t) + 1).toNatClampNeg) (xs (nI (5 * t) + 2).toNatClampNeg)
  refine law_x (n := 2) (As := [.int (xs (nI (5 * t) + 1).toNatClampNeg), .int (xs (nI (5 * t) + 2).toNatClampNeg)]) (rest := []) hc hw hl.1 hC9 gL_law_X5_wheel rfl ⟨rfl, by decide +kernel, by decide +kernel, by decide +kernel⟩ b1 b2 (by decide) rfl rfl (Nat.le_of_ble_eq_true rfl) dL_law_249 (fun c1 H locs hPC hw => ?_)
  refine lv_aload_n hx hb dL_law_252 rfl (lv_at hl 2 rfl) ?_
  refine lv_aload_n hx hb dL_law_253 rfl (lv_at hl 0 rfl) ?_
  refine lv_iload_n hx hb dL_law_254 rfl (lv_at hl 3 rfl) ?_
  refine lv_iconst (v := 1) hx hb dL_law_255 (by decide) ?_
  refine lv_iadd hx hb dL_law_256 ?_
  refine va_sld hx hb hX hbl hbA hw.2.2 (law_in (k := 1) rfl (by omega) hL) dL_law_257 ?_
  refine lv_aload_n hx hb dL_law_258 rfl (lv_at hl 0 rfl) ?_
  refine lv_iload_n hx hb dL_law_259 rfl (lv_at hl 3 rfl) ?_
  refine lv_iconst (v := 2) hx hb dL_law_260 (by decide) ?_
  refine lv_iadd hx hb dL_law_261 ?_
  refine va_sld hx hb hX hbl hbA hw.2.2 (law_in (k := 2) rfl (by omega) hL) dL_law_262 ?_
  refine law_y (n := 2) (As := [.int (xs (nI (5 * t) + 1).toNatClampNeg), .int (xs (nI (5 * t) + 2).toNatClampNeg)]) (rest := [.int v]) hc hw hl.1 hR9 gL_law_X6_wheel rfl ⟨rfl, by decide +kernel, by decide +kernel, by decide +kernel⟩ b3 b4 (by decide) rfl rfl (Nat.le_of_ble_eq_true rfl) dL_law_263 (fun r1 H locs hPR hw => ?_)
  refine lv_icmp_eq (tgt := 1071) hx hb dL_law_266 (by decide) (fun _ => ?_) (fun q => absurd rfl q)
  exact kk c1 r1 H locs (hI c1 r1 hPC hPR) hw
set_option maxHeartbeats 4000000 in
theorem law_c5 (hc : g_C p s m #[Value.ref b] meth cd code RL wsL_law 4 D E T (lwA s)) (hX : va_X b L xs s s.heap) (hbl : b < s.heap.size) (ht : 5 * t + 5 ≤ L) (hL : L ≤ 2560) (hi : Inv (99 * t) c r) (hw : g_W D (lwA s) s (LW E a f bb c r) H locs) (hl : lv_has ls 4 [(0, .ref b), (1, .ref (a 0)), (2, .ref (bb 0)), (3, .int (nI (5 * t)))])
    (kk : ∀ (c1 : CS) (r1 : RS) (H1 : Heap) (locs1 : List Loc), Inv (99 * t + 99) c1 r1 → g_W D (lwA s) s (LW E a f bb c1 r1) H1 locs1 → W p l e room_1 s m #[Value.ref b] below meth cd H1 locs1 118 1827 Q (F0 m 1071 ls [])) : W p l e room_1 s m #[Value.ref b] below meth cd H locs 118 1827 Q (F0 m 271 ls []) := by
  have hx := hc.1
  have hb := hc.2.1
  have hB : 99 * t + 400 < 2 ^ 31 := by omega
  have hbA : ¬ lwA s b := Nat.not_le.mpr hbl
  by_cases hz : xs (nI (5 * t) + 1).toNatClampNeg = 0
  · skip
    refine lv_aload_n hx hb dL_law_271 rfl (lv_at hl 1 rfl) ?_
    refine lv_aload_n hx hb dL_law_272 rfl (lv_at hl 0 rfl) ?_
    refine lv_iload_n hx hb dL_law_273 rfl (lv_at hl 3 rfl) ?_
    refine lv_iconst (v := 1) hx hb dL_law_274 (by decide) ?_
    refine lv_iadd hx hb dL_law_275 ?_
    refine va_sld hx hb hX hbl hbA hw.2.2 (law_in (k := 1) rfl (by omega) hL) dL_law_276 ?_
    refine lv_if_eq (tgt := 284) hx hb dL_law_277 (by decide) (fun _ => ?_) (fun q => absurd hz q)
    refine lv_iconst (v := 0) hx hb dL_law_284 (by decide) ?_
    refine lv_aload_n hx hb dL_law_285 rfl (lv_at hl 0 rfl) ?_
    refine lv_iload_n hx hb dL_law_286 rfl (lv_at hl 3 rfl) ?_
    refine lv_iconst (v := 2) hx hb dL_law_287 (by decide) ?_
    refine lv_iadd hx hb dL_law_288 ?_
    refine va_sld hx hb hX hbl hbA hw.2.2 (law_in (k := 2) rfl (by omega) hL) dL_law_289 ?_
    refine lv_aload_n hx hb dL_law_290 rfl (lv_at hl 0 rfl) ?_
    refine lv_iload_n hx hb dL_law_291 rfl (lv_at hl 3 rfl) ?_
    refine lv_iconst (v := 3) hx hb dL_law_292 (by decide) ?_
    refine lv_iadd hx hb dL_law_293 ?_
    refine va_sld hx hb hX hbl hbA hw.2.2 (law_in (k := 3) rfl (by omega) hL) dL_law_294 ?_
    obtain ⟨o, PC, PR, f1, l1, f2, l2, ⟨b1, b2, b3, b4⟩, hC9, hR9, hI, v, rfl⟩ := St_told (l := l) (D := D) (E := E) (T := T) (a := a) (f := f) (b := bb) hi hB false (xs (nI (5 * t) + 2).toNatClampNeg) (xs (nI (5 * t) + 3).toNatClampNeg)
    refine law_x (n := 3) (As := [.int 0, .int (xs (nI (5 * t) + 2).toNatClampNeg), .int (xs (nI (5 * t) + 3).toNatClampNeg)]) (rest := []) hc hw hl.1 hC9 gL_law_X5_told rfl ⟨rfl, by decide +kernel, by decide +kernel, by decide +kernel⟩ b1 b2 (by decide) rfl rfl (Nat.le_of_ble_eq_true rfl) dL_law_295 (fun c1 H locs hPC hw => ?_)
    refine lv_aload_n hx hb dL_law_298 rfl (lv_at hl 2 rfl) ?_
    refine lv_aload_n hx hb dL_law_299 rfl (lv_at hl 0 rfl) ?_
    refine lv_iload_n hx hb dL_law_300 rfl (lv_at hl 3 rfl) ?_
    refine lv_iconst (v := 1) hx hb dL_law_301 (by decide) ?_
    refine lv_iadd hx hb dL_law_302 ?_
    refine va_sld hx hb hX hbl hbA hw.2.2 (law_in (k := 1) rfl (by omega) hL) dL_law_303 ?_
    refine lv_if_eq (tgt := 311) hx hb dL_law_304 (by decide) (fun _ => ?_) (fun q => absurd hz q)
    refine lv_iconst (v := 0) hx hb dL_law_311 (by decide) ?_
    refine lv_aload_n hx hb dL_law_312 rfl (lv_at hl 0 rfl) ?_
    refine lv_iload_n hx hb dL_law_313 rfl (lv_at hl 3 rfl) ?_
    refine lv_iconst (v := 2) hx hb dL_law_314 (by decide) ?_
    refine lv_iadd hx hb dL_law_315 ?_
    refine va_sld hx hb hX hbl hbA hw.2.2 (law_in (k := 2) rfl (by omega) hL) dL_law_316 ?_
    refine lv_aload_n hx hb dL_law_317 rfl (lv_at hl 0 rfl) ?_
    refine lv_iload_n hx hb dL_law_318 rfl (lv_at hl 3 rfl) ?_
    refine lv_iconst (v := 3) hx hb dL_law_319 (by decide) ?_
    refine lv_iadd hx hb dL_law_320 ?_
    refine va_sld hx hb hX hbl hbA hw.2.2 (law_in (k := 3) rfl (by omega) hL) dL_law_321 ?_
    refine law_y (n := 3) (As := [.int 0, .int (xs (nI (5 * t) + 2).toNatClampNeg), .int (xs (nI (5 * t) + 3).toNatClampNeg)]) (rest := [.int v]) hc hw hl.1 hR9 gL_law_X6_told rfl ⟨rfl, by decide +kernel, by decide +kernel, by decide +kernel⟩ b3 b4 (by decide) rfl rfl (Nat.le_of_ble_eq_true rfl) dL_law_322 (fun r1 H locs hPR hw => ?_)
    refine lv_icmp_eq (tgt := 1071) hx hb dL_law_325 (by decide) (fun _ => ?_) (fun q => absurd rfl q)
    exact kk c1 r1 H locs (hI c1 r1 hPC hPR) hw
  · skip
    refine lv_aload_n hx hb dL_law_271 rfl (lv_at hl 1 rfl) ?_
    refine lv_aload_n hx hb dL_law_272 rfl (lv_at hl 0 rfl) ?_
    refine lv_iload_n hx hb dL_law_273 rfl (lv_at hl 3 rfl) ?_
    refine lv_iconst (v := 1) hx hb dL_law_274 (by decide) ?_
    refine lv_iadd hx hb dL_law_275 ?_
    refine va_sld hx hb hX hbl hbA hw.2.2 (law_in (k := 1) rfl (by omega) hL) dL_law_276 ?_
    refine lv_if_eq (tgt := 284) hx hb dL_law_277 (by decide) (fun q => absurd q hz) (fun _ => ?_)
    refine lv_iconst (v := 1) hx hb dL_law_280 (by decide) ?_
    refine lv_goto (tgt := 285) hx hb dL_law_281 (by decide) ?_
    refine lv_aload_n hx hb dL_law_285 rfl (lv_at hl 0 rfl) ?_
    refine lv_iload_n hx hb dL_law_286 rfl (lv_at hl 3 rfl) ?_
    refine lv_iconst (v := 2) hx hb dL_law_287 (by decide) ?_
    refine lv_iadd hx hb dL_law_288 ?_
    refine va_sld hx hb hX hbl hbA hw.2.2 (law_in (k := 2) rfl (by omega) hL) dL_law_289 ?_
    refine lv_aload_n hx hb dL_law_290 rfl (lv_at hl 0 rfl) ?_
    refine lv_iload_n hx hb dL_law_291 rfl (lv_at hl 3 rfl) ?_
    refine lv_iconst (v := 3) hx hb dL_law_292 (by decide) ?_
    refine lv_iadd hx hb dL_law_293 ?_
    refine va_sld hx hb hX hbl hbA hw.2.2 (law_in (k := 3) rfl (by omega) hL) dL_law_294 ?_
    obtain ⟨o, PC, PR, f1, l1, f2, l2, ⟨b1, b2, b3, b4⟩, hC9, hR9, hI, v, rfl⟩ := St_told (l := l) (D := D) (E := E) (T := T) (a := a) (f := f) (b := bb) hi hB true (xs (nI (5 * t) + 2).toNatClampNeg) (xs (nI (5 * t) + 3).toNatClampNeg)
    refine law_x (n := 3) (As := [.int 1, .int (xs (nI (5 * t) + 2).toNatClampNeg), .int (xs (nI (5 * t) + 3).toNatClampNeg)]) (rest := []) hc hw hl.1 hC9 gL_law_X5_told rfl ⟨rfl, by decide +kernel, by decide +kernel, by decide +kernel⟩ b1 b2 (by decide) rfl rfl (Nat.le_of_ble_eq_true rfl) dL_law_295 (fun c1 H locs hPC hw => ?_)
    refine lv_aload_n hx hb dL_law_298 rfl (lv_at hl 2 rfl) ?_
    refine lv_aload_n hx hb dL_law_299 rfl (lv_at hl 0 rfl) ?_
    refine lv_iload_n hx hb dL_law_300 rfl (lv_at hl 3 rfl) ?_
    refine lv_iconst (v := 1) hx hb dL_law_301 (by decide) ?_
    refine lv_iadd hx hb dL_law_302 ?_
    refine va_sld hx hb hX hbl hbA hw.2.2 (law_in (k := 1) rfl (by omega) hL) dL_law_303 ?_
    refine lv_if_eq (tgt := 311) hx hb dL_law_304 (by decide) (fun q => absurd q hz) (fun _ => ?_)
    refine lv_iconst (v := 1) hx hb dL_law_307 (by decide) ?_
    refine lv_goto (tgt := 312) hx hb dL_law_308 (by decide) ?_
    refine lv_aload_n hx hb dL_law_312 rfl (lv_at hl 0 rfl) ?_
    refine lv_iload_n hx hb dL_law_313 rfl (lv_at hl 3 rfl) ?_
    refine lv_iconst (v := 2) hx hb dL_law_314 (by decide) ?_
    refine lv_iadd hx hb dL_law_315 ?_
    refine va_sld hx hb hX hbl hbA hw.2.2 (law_in (k := 2) rfl (by omega) hL) dL_law_316 ?_
    refine lv_aload_n hx hb dL_law_317 rfl (lv_at hl 0 rfl) ?_
    refine lv_iload_n hx hb dL_law_318 rfl (lv_at hl 3 rfl) ?_
    refine lv_iconst (v := 3) hx hb dL_law_319 (by decide) ?_
    refine lv_iadd hx hb dL_law_320 ?_
    refine va_sld hx hb hX hbl hbA hw.2.2 (law_in (k := 3) rfl (by omega) hL) dL_law_321 ?_
    refine law_y (n := 3) (As := [.int 1, .int (xs (nI (5 * t) + 2).toNatClampNeg), .int (xs (nI (5 * t) + 3).toNatClampNeg)]) (rest := [.int v]) hc hw hl.1 hR9 gL_law_X6_told rfl ⟨rfl, by decide +kernel, by decide +kernel, by decide +kernel⟩ b3 b4 (by decide) rfl rfl (Nat.le_of_ble_eq_true rfl) dL_law_322 (fun r1 H locs hPR hw => ?_)
    refine lv_icmp_eq (tgt := 1071) hx hb dL_law_325 (by decide) (fun _ => ?_) (fun q => absurd rfl q)
    exact kk c1 r1 H locs (hI c1 r1 hPC hPR) hw
set_option maxHeartbeats 4000000 in
theorem law_c6 (hc : g_C p s m #[Value.ref b] meth cd code RL wsL_law 4 D E T (lwA s)) (hX : va_X b L xs s s.heap) (hbl : b < s.heap.size) (ht : 5 * t + 5 ≤ L) (hL : L ≤ 2560) (hi : Inv (99 * t) c r) (hw : g_W D (lwA s) s (LW E a f bb c r) H locs) (hl : lv_has ls 4 [(0, .ref b), (1, .ref (a 0)), (2, .ref (bb 0)), (3, .int (nI (5 * t)))])
    (kk : ∀ (c1 : CS) (r1 : RS) (H1 : Heap) (locs1 : List Loc), Inv (99 * t + 99) c1 r1 → g_W D (lwA s) s (LW E a f bb c1 r1) H1 locs1 → W p l e room_1 s m #[Value.ref b] below meth cd H1 locs1 118 1827 Q (F0 m 1071 ls [])) : W p l e room_1 s m #[Value.ref b] below meth cd H locs 118 1827 Q (F0 m 330 ls []) := by
  have hx := hc.1
  have hb := hc.2.1
  have hB : 99 * t + 400 < 2 ^ 31 := by omega
  have hbA : ¬ lwA s b := Nat.not_le.mpr hbl
  refine lv_aload_n hx hb dL_law_330 rfl (lv_at hl 1 rfl) ?_
  refine lv_aload_n hx hb dL_law_331 rfl (lv_at hl 0 rfl) ?_
  refine lv_iload_n hx hb dL_law_332 rfl (lv_at hl 3 rfl) ?_
  refine lv_iconst (v := 1) hx hb dL_law_333 (by decide) ?_
  refine lv_iadd hx hb dL_law_334 ?_
  refine va_sld hx hb hX hbl hbA hw.2.2 (law_in (k := 1) rfl (by omega) hL) dL_law_335 ?_
  obtain ⟨o, PC, PR, f1, l1, f2, l2, ⟨b1, b2, b3, b4⟩, hC9, hR9, hI, v, rfl⟩ := St_momentum (l := l) (D := D) (E := E) (T := T) (a := a) (f := f) (b := bb) hi hB (xs (nI (5 * t) + 1).toNatClampNeg)
  refine law_x (n := 1) (As := [.int (xs (nI (5 * t) + 1).toNatClampNeg)]) (rest := []) hc hw hl.1 hC9 gL_law_X5_momentum rfl ⟨rfl, by decide +kernel, by decide +kernel, by decide +kernel⟩ b1 b2 (by decide) rfl rfl (Nat.le_of_ble_eq_true rfl) dL_law_336 (fun c1 H locs hPC hw => ?_)
  refine lv_aload_n hx hb dL_law_339 rfl (lv_at hl 2 rfl) ?_
  refine lv_aload_n hx hb dL_law_340 rfl (lv_at hl 0 rfl) ?_
  refine lv_iload_n hx hb dL_law_341 rfl (lv_at hl 3 rfl) ?_
  refine lv_iconst (v := 1) hx hb dL_law_342 (by decide) ?_
  refine lv_iadd hx hb dL_law_343 ?_
  refine va_sld hx hb hX hbl hbA hw.2.2 (law_in (k := 1) rfl (by omega) hL) dL_law_344 ?_
  refine law_y (n := 1) (As := [.int (xs (nI (5 * t) + 1).toNatClampNeg)]) (rest := [.int v]) hc hw hl.1 hR9 gL_law_X6_momentum rfl ⟨rfl, by decide +kernel, by decide +kernel, by decide +kernel⟩ b3 b4 (by decide) rfl rfl (Nat.le_of_ble_eq_true rfl) dL_law_345 (fun r1 H locs hPR hw => ?_)
  refine lv_icmp_eq (tgt := 1071) hx hb dL_law_348 (by decide) (fun _ => ?_) (fun q => absurd rfl q)
  exact kk c1 r1 H locs (hI c1 r1 hPC hPR) hw
set_option maxHeartbeats 4000000 in
theorem law_c7 (hc : g_C p s m #[Value.ref b] meth cd code RL wsL_law 4 D E T (lwA s)) (hX : va_X b L xs s s.heap) (hbl : b < s.heap.size) (ht : 5 * t + 5 ≤ L) (hL : L ≤ 2560) (hi : Inv (99 * t) c r) (hw : g_W D (lwA s) s (LW E a f bb c r) H locs) (hl : lv_has ls 4 [(0, .ref b), (1, .ref (a 0)), (2, .ref (bb 0)), (3, .int (nI (5 * t)))])
    (kk : ∀ (c1 : CS) (r1 : RS) (H1 : Heap) (locs1 : List Loc), Inv (99 * t + 99) c1 r1 → g_W D (lwA s) s (LW E a f bb c1 r1) H1 locs1 → W p l e room_1 s m #[Value.ref b] below meth cd H1 locs1 118 1827 Q (F0 m 1071 ls [])) : W p l e room_1 s m #[Value.ref b] below meth cd H locs 118 1827 Q (F0 m 353 ls []) := by
  have hx := hc.1
  have hb := hc.2.1
  have hB : 99 * t + 400 < 2 ^ 31 := by omega
  have hbA : ¬ lwA s b := Nat.not_le.mpr hbl
  refine lv_aload_n hx hb dL_law_353 rfl (lv_at hl 1 rfl) ?_
  refine lv_aload_n hx hb dL_law_354 rfl (lv_at hl 0 rfl) ?_
  refine lv_iload_n hx hb dL_law_355 rfl (lv_at hl 3 rfl) ?_
  refine lv_iconst (v := 1) hx hb dL_law_356 (by decide) ?_
  refine lv_iadd hx hb dL_law_357 ?_
  refine va_sld hx hb hX hbl hbA hw.2.2 (law_in (k := 1) rfl (by omega) hL) dL_law_358 ?_
  obtain ⟨o, PC, PR, f1, l1, f2, l2, ⟨b1, b2, b3, b4⟩, hC9, hR9, hI, v, rfl⟩ := St_tick (l := l) (D := D) (E := E) (T := T) (a := a) (f := f) (b := bb) hi hB (xs (nI (5 * t) + 1).toNatClampNeg)
  refine law_x (n := 1) (As := [.int (xs (nI (5 * t) + 1).toNatClampNeg)]) (rest := []) hc hw hl.1 hC9 gL_law_X5_tick rfl ⟨rfl, by decide +kernel, by decide +kernel, by decide +kernel⟩ b1 b2 (by decide) rfl rfl (Nat.le_of_ble_eq_true rfl) dL_law_359 (fun c1 H locs hPC hw => ?_)
  refine lv_aload_n hx hb dL_law_362 rfl (lv_at hl 2 rfl) ?_
  refine lv_aload_n hx hb dL_law_363 rfl (lv_at hl 0 rfl) ?_
  refine lv_iload_n hx hb dL_law_364 rfl (lv_at hl 3 rfl) ?_
  refine lv_iconst (v := 1) hx hb dL_law_365 (by decide) ?_
  refine lv_iadd hx hb dL_law_366 ?_
  refine va_sld hx hb hX hbl hbA hw.2.2 (law_in (k := 1) rfl (by omega) hL) dL_law_367 ?_
  refine law_y (n := 1) (As := [.int (xs (nI (5 * t) + 1).toNatClampNeg)]) (rest := [.int v]) hc hw hl.1 hR9 gL_law_X6_tick rfl ⟨rfl, by decide +kernel, by decide +kernel, by decide +kernel⟩ b3 b4 (by decide) rfl rfl (Nat.le_of_ble_eq_true rfl) dL_law_368 (fun r1 H locs hPR hw => ?_)
  refine lv_icmp_eq (tgt := 1071) hx hb dL_law_371 (by decide) (fun _ => ?_) (fun q => absurd rfl q)
  exact kk c1 r1 H locs (hI c1 r1 hPC hPR) hw
set_option maxHeartbeats 4000000 in
theorem law_c8 (hc : g_C p s m #[Value.ref b] meth cd code RL wsL_law 4 D E T (lwA s)) (hX : va_X b L xs s s.heap) (hbl : b < s.heap.size) (ht : 5 * t + 5 ≤ L) (hL : L ≤ 2560) (hi : Inv (99 * t) c r) (hw : g_W D (lwA s) s (LW E a f bb c r) H locs) (hl : lv_has ls 4 [(0, .ref b), (1, .ref (a 0)), (2, .ref (bb 0)), (3, .int (nI (5 * t)))])
    (kk : ∀ (c1 : CS) (r1 : RS) (H1 : Heap) (locs1 : List Loc), Inv (99 * t + 99) c1 r1 → g_W D (lwA s) s (LW E a f bb c1 r1) H1 locs1 → W p l e room_1 s m #[Value.ref b] below meth cd H1 locs1 118 1827 Q (F0 m 1071 ls [])) : W p l e room_1 s m #[Value.ref b] below meth cd H locs 118 1827 Q (F0 m 376 ls []) := by
  have hx := hc.1
  have hb := hc.2.1
  have hB : 99 * t + 400 < 2 ^ 31 := by omega
  have hbA : ¬ lwA s b := Nat.not_le.mpr hbl
  refine lv_aload_n hx hb dL_law_376 rfl (lv_at hl 1 rfl) ?_
  refine lv_aload_n hx hb dL_law_377 rfl (lv_at hl 0 rfl) ?_
  refine lv_iload_n hx hb dL_law_378 rfl (lv_at hl 3 rfl) ?_
  refine lv_iconst (v := 1) hx hb dL_law_379 (by decide) ?_
  refine lv_iadd hx hb dL_law_380 ?_
  refine va_sld hx hb hX hbl hbA hw.2.2 (law_in (k := 1) rfl (by omega) hL) dL_law_381 ?_
  obtain ⟨o, PC, PR, f1, l1, f2, l2, ⟨b1, b2, b3, b4⟩, hC9, hR9, hI, v, rfl⟩ := St_kill (l := l) (D := D) (E := E) (T := T) (a := a) (f := f) (b := bb) hi hB (xs (nI (5 * t) + 1).toNatClampNeg)
  refine law_x (n := 1) (As := [.int (xs (nI (5 * t) + 1).toNatClampNeg)]) (rest := []) hc hw hl.1 hC9 gL_law_X5_kill rfl ⟨rfl, by decide +kernel, by decide +kernel, by decide +kernel⟩ b1 b2 (by decide) rfl rfl (Nat.le_of_ble_eq_true rfl) dL_law_382 (fun c1 H locs hPC hw => ?_)
  refine lv_aload_n hx hb dL_law_385 rfl (lv_at hl 2 rfl) ?_
  refine lv_aload_n hx hb dL_law_386 rfl (lv_at hl 0 rfl) ?_
  refine lv_iload_n hx hb dL_law_387 rfl (lv_at hl 3 rfl) ?_
  refine lv_iconst (v := 1) hx hb dL_law_388 (by decide) ?_
  refine lv_iadd hx hb dL_law_389 ?_
  refine va_sld hx hb hX hbl hbA hw.2.2 (law_in (k := 1) rfl (by omega) hL) dL_law_390 ?_
  refine law_y (n := 1) (As := [.int (xs (nI (5 * t) + 1).toNatClampNeg)]) (rest := [.int v]) hc hw hl.1 hR9 gL_law_X6_kill rfl ⟨rfl, by decide +kernel, by decide +kernel, by decide +kernel⟩ b3 b4 (by decide) rfl rfl (Nat.le_of_ble_eq_true rfl) dL_law_391 (fun r1 H locs hPR hw => ?_)
  refine lv_icmp_eq (tgt := 1071) hx hb dL_law_394 (by decide) (fun _ => ?_) (fun q => absurd rfl q)
  exact kk c1 r1 H locs (hI c1 r1 hPC hPR) hw
set_option maxHeartbeats 4000000 in
theorem law_c9 (hc : g_C p s m #[Value.ref b] meth cd code RL wsL_law 4 D E T (lwA s)) (hX : va_X b L xs s s.heap) (hbl : b < s.heap.size) (ht : 5 * t + 5 ≤ L) (hL : L ≤ 2560) (hi : Inv (99 * t) c r) (hw : g_W D (lwA s) s (LW E a f bb c r) H locs) (hl : lv_has ls 4 [(0, .ref b), (1, .ref (a 0)), (2, .ref (bb 0)), (3, .int (nI (5 * t)))])
    (kk : ∀ (c1 : CS) (r1 : RS) (H1 : Heap) (locs1 : List Loc), Inv (99 * t + 99) c1 r1 → g_W D (lwA s) s (LW E a f bb c1 r1) H1 locs1 → W p l e room_1 s m #[Value.ref b] below meth cd H1 locs1 118 1827 Q (F0 m 1071 ls [])) : W p l e room_1 s m #[Value.ref b] below meth cd H locs 118 1827 Q (F0 m 399 ls []) := by
  have hx := hc.1
  have hb := hc.2.1
  have hB : 99 * t + 400 < 2 ^ 31 := by omega
  have hbA : ¬ lwA s b := Nat.not_le.mpr hbl
  refine lv_aload_n hx hb dL_law_399 rfl (lv_at hl 1 rfl) ?_
  refine lv_aload_n hx hb dL_law_400 rfl (lv_at hl 0 rfl) ?_
  refine lv_iload_n hx hb dL_law_401 rfl (lv_at hl 3 rfl) ?_
  refine lv_iconst (v := 1) hx hb dL_law_402 (by decide) ?_
  refine lv_iadd hx hb dL_law_403 ?_
  refine va_sld hx hb hX hbl hbA hw.2.2 (law_in (k := 1) rfl (by omega) hL) dL_law_404 ?_
  obtain ⟨o, PC, PR, f1, l1, f2, l2, ⟨b1, b2, b3, b4⟩, hC9, hR9, hI, v, rfl⟩ := St_mend (l := l) (D := D) (E := E) (T := T) (a := a) (f := f) (b := bb) hi hB (xs (nI (5 * t) + 1).toNatClampNeg)
  refine law_x (n := 1) (As := [.int (xs (nI (5 * t) + 1).toNatClampNeg)]) (rest := []) hc hw hl.1 hC9 gL_law_X5_mend rfl ⟨rfl, by decide +kernel, by decide +kernel, by decide +kernel⟩ b1 b2 (by decide) rfl rfl (Nat.le_of_ble_eq_true rfl) dL_law_405 (fun c1 H locs hPC hw => ?_)
  refine lv_aload_n hx hb dL_law_408 rfl (lv_at hl 2 rfl) ?_
  refine lv_aload_n hx hb dL_law_409 rfl (lv_at hl 0 rfl) ?_
  refine lv_iload_n hx hb dL_law_410 rfl (lv_at hl 3 rfl) ?_
  refine lv_iconst (v := 1) hx hb dL_law_411 (by decide) ?_
  refine lv_iadd hx hb dL_law_412 ?_
  refine va_sld hx hb hX hbl hbA hw.2.2 (law_in (k := 1) rfl (by omega) hL) dL_law_413 ?_
  refine law_y (n := 1) (As := [.int (xs (nI (5 * t) + 1).toNatClampNeg)]) (rest := [.int v]) hc hw hl.1 hR9 gL_law_X6_mend rfl ⟨rfl, by decide +kernel, by decide +kernel, by decide +kernel⟩ b3 b4 (by decide) rfl rfl (Nat.le_of_ble_eq_true rfl) dL_law_414 (fun r1 H locs hPR hw => ?_)
  refine lv_icmp_eq (tgt := 1071) hx hb dL_law_417 (by decide) (fun _ => ?_) (fun q => absurd rfl q)
  exact kk c1 r1 H locs (hI c1 r1 hPC hPR) hw
set_option maxHeartbeats 4000000 in
theorem law_c10 (hc : g_C p s m #[Value.ref b] meth cd code RL wsL_law 4 D E T (lwA s)) (hX : va_X b L xs s s.heap) (hbl : b < s.heap.size) (ht : 5 * t + 5 ≤ L) (hL : L ≤ 2560) (hi : Inv (99 * t) c r) (hw : g_W D (lwA s) s (LW E a f bb c r) H locs) (hl : lv_has ls 4 [(0, .ref b), (1, .ref (a 0)), (2, .ref (bb 0)), (3, .int (nI (5 * t)))])
    (kk : ∀ (c1 : CS) (r1 : RS) (H1 : Heap) (locs1 : List Loc), Inv (99 * t + 99) c1 r1 → g_W D (lwA s) s (LW E a f bb c1 r1) H1 locs1 → W p l e room_1 s m #[Value.ref b] below meth cd H1 locs1 118 1827 Q (F0 m 1071 ls [])) : W p l e room_1 s m #[Value.ref b] below meth cd H locs 118 1827 Q (F0 m 422 ls []) := by
  have hx := hc.1
  have hb := hc.2.1
  have hB : 99 * t + 400 < 2 ^ 31 := by omega
  have hbA : ¬ lwA s b := Nat.not_le.mpr hbl
  refine lv_aload_n hx hb dL_law_422 rfl (lv_at hl 1 rfl) ?_
  obtain ⟨o, PC, PR, f1, l1, f2, l2, ⟨b1, b2, b3, b4⟩, hC9, hR9, hI, v, rfl⟩ := St_free (l := l) (D := D) (E := E) (T := T) (a := a) (f := f) (b := bb) hi hB 
  refine law_x (n := 0) (As := []) (rest := []) hc hw hl.1 hC9 gL_law_X5_free rfl ⟨rfl, by decide +kernel, by decide +kernel, by decide +kernel⟩ b1 b2 (by decide) rfl rfl (Nat.le_of_ble_eq_true rfl) dL_law_423 (fun c1 H locs hPC hw => ?_)
  refine lv_aload_n hx hb dL_law_426 rfl (lv_at hl 2 rfl) ?_
  refine law_y (n := 0) (As := []) (rest := [.int v]) hc hw hl.1 hR9 gL_law_X6_free rfl ⟨rfl, by decide +kernel, by decide +kernel, by decide +kernel⟩ b3 b4 (by decide) rfl rfl (Nat.le_of_ble_eq_true rfl) dL_law_427 (fun r1 H locs hPR hw => ?_)
  refine lv_icmp_eq (tgt := 1071) hx hb dL_law_430 (by decide) (fun _ => ?_) (fun q => absurd rfl q)
  exact kk c1 r1 H locs (hI c1 r1 hPC hPR) hw
set_option maxHeartbeats 4000000 in
theorem law_c11 (hc : g_C p s m #[Value.ref b] meth cd code RL wsL_law 4 D E T (lwA s)) (hX : va_X b L xs s s.heap) (hbl : b < s.heap.size) (ht : 5 * t + 5 ≤ L) (hL : L ≤ 2560) (hi : Inv (99 * t) c r) (hw : g_W D (lwA s) s (LW E a f bb c r) H locs) (hl : lv_has ls 4 [(0, .ref b), (1, .ref (a 0)), (2, .ref (bb 0)), (3, .int (nI (5 * t)))])
    (kk : ∀ (c1 : CS) (r1 : RS) (H1 : Heap) (locs1 : List Loc), Inv (99 * t + 99) c1 r1 → g_W D (lwA s) s (LW E a f bb c1 r1) H1 locs1 → W p l e room_1 s m #[Value.ref b] below meth cd H1 locs1 118 1827 Q (F0 m 1071 ls [])) : W p l e room_1 s m #[Value.ref b] below meth cd H locs 118 1827 Q (F0 m 435 ls []) := by
  have hx := hc.1
  have hb := hc.2.1
  have hB : 99 * t + 400 < 2 ^ 31 := by omega
  have hbA : ¬ lwA s b := Nat.not_le.mpr hbl
  refine lv_aload_n hx hb dL_law_435 rfl (lv_at hl 1 rfl) ?_
  refine lv_aload_n hx hb dL_law_436 rfl (lv_at hl 0 rfl) ?_
  refine lv_iload_n hx hb dL_law_437 rfl (lv_at hl 3 rfl) ?_
  refine lv_iconst (v := 1) hx hb dL_law_438 (by decide) ?_
  refine lv_iadd hx hb dL_law_439 ?_
  refine va_sld hx hb hX hbl hbA hw.2.2 (law_in (k := 1) rfl (by omega) hL) dL_law_440 ?_
  refine lv_aload_n hx hb dL_law_441 rfl (lv_at hl 0 rfl) ?_
  refine lv_iload_n hx hb dL_law_442 rfl (lv_at hl 3 rfl) ?_
  refine lv_iconst (v := 2) hx hb dL_law_443 (by decide) ?_
  refine lv_iadd hx hb dL_law_444 ?_
  refine va_sld hx hb hX hbl hbA hw.2.2 (law_in (k := 2) rfl (by omega) hL) dL_law_445 ?_
  obtain ⟨o, PC, PR, f1, l1, f2, l2, ⟨b1, b2, b3, b4⟩, hC9, hR9, hI, v, rfl⟩ := St_set (l := l) (D := D) (E := E) (T := T) (a := a) (f := f) (b := bb) hi hB (xs (nI (5 * t) + 1).toNatClampNeg) (xs (nI (5 * t) + 2).toNatClampNeg)
  refine law_x (n := 2) (As := [.int (xs (nI (5 * t) + 1).toNatClampNeg), .int (xs (nI (5 * t) + 2).toNatClampNeg)]) (rest := []) hc hw hl.1 hC9 gL_law_X5_set rfl ⟨rfl, by decide +kernel, by decide +kernel, by decide +kernel⟩ b1 b2 (by decide) rfl rfl (Nat.le_of_ble_eq_true rfl) dL_law_446 (fun c1 H locs hPC hw => ?_)
  refine lv_aload_n hx hb dL_law_449 rfl (lv_at hl 2 rfl) ?_
  refine lv_aload_n hx hb dL_law_450 rfl (lv_at hl 0 rfl) ?_
  refine lv_iload_n hx hb dL_law_451 rfl (lv_at hl 3 rfl) ?_
  refine lv_iconst (v := 1) hx hb dL_law_452 (by decide) ?_
  refine lv_iadd hx hb dL_law_453 ?_
  refine va_sld hx hb hX hbl hbA hw.2.2 (law_in (k := 1) rfl (by omega) hL) dL_law_454 ?_
  refine lv_aload_n hx hb dL_law_455 rfl (lv_at hl 0 rfl) ?_
  refine lv_iload_n hx hb dL_law_456 rfl (lv_at hl 3 rfl) ?_
  refine lv_iconst (v := 2) hx hb dL_law_457 (by decide) ?_
  refine lv_iadd hx hb dL_law_458 ?_
  refine va_sld hx hb hX hbl hbA hw.2.2 (law_in (k := 2) rfl (by omega) hL) dL_law_459 ?_
  refine law_y (n := 2) (As := [.int (xs (nI (5 * t) + 1).toNatClampNeg), .int (xs (nI (5 * t) + 2).toNatClampNeg)]) (rest := [.int v]) hc hw hl.1 hR9 gL_law_X6_set rfl ⟨rfl, by decide +kernel, by decide +kernel, by decide +kernel⟩ b3 b4 (by decide) rfl rfl (Nat.le_of_ble_eq_true rfl) dL_law_460 (fun r1 H locs hPR hw => ?_)
  refine lv_icmp_eq (tgt := 1071) hx hb dL_law_463 (by decide) (fun _ => ?_) (fun q => absurd rfl q)
  exact kk c1 r1 H locs (hI c1 r1 hPC hPR) hw
set_option maxHeartbeats 4000000 in
theorem law_c12 (hc : g_C p s m #[Value.ref b] meth cd code RL wsL_law 4 D E T (lwA s)) (hX : va_X b L xs s s.heap) (hbl : b < s.heap.size) (ht : 5 * t + 5 ≤ L) (hL : L ≤ 2560) (hi : Inv (99 * t) c r) (hw : g_W D (lwA s) s (LW E a f bb c r) H locs) (hl : lv_has ls 4 [(0, .ref b), (1, .ref (a 0)), (2, .ref (bb 0)), (3, .int (nI (5 * t)))])
    (kk : ∀ (c1 : CS) (r1 : RS) (H1 : Heap) (locs1 : List Loc), Inv (99 * t + 99) c1 r1 → g_W D (lwA s) s (LW E a f bb c1 r1) H1 locs1 → W p l e room_1 s m #[Value.ref b] below meth cd H1 locs1 118 1827 Q (F0 m 1071 ls [])) : W p l e room_1 s m #[Value.ref b] below meth cd H locs 118 1827 Q (F0 m 468 ls []) := by
  have hx := hc.1
  have hb := hc.2.1
  have hB : 99 * t + 400 < 2 ^ 31 := by omega
  have hbA : ¬ lwA s b := Nat.not_le.mpr hbl
  refine lv_aload_n hx hb dL_law_468 rfl (lv_at hl 1 rfl) ?_
  refine lv_aload_n hx hb dL_law_469 rfl (lv_at hl 0 rfl) ?_
  refine lv_iload_n hx hb dL_law_470 rfl (lv_at hl 3 rfl) ?_
  refine lv_iconst (v := 1) hx hb dL_law_471 (by decide) ?_
  refine lv_iadd hx hb dL_law_472 ?_
  refine va_sld hx hb hX hbl hbA hw.2.2 (law_in (k := 1) rfl (by omega) hL) dL_law_473 ?_
  refine lv_aload_n hx hb dL_law_474 rfl (lv_at hl 0 rfl) ?_
  refine lv_iload_n hx hb dL_law_475 rfl (lv_at hl 3 rfl) ?_
  refine lv_iconst (v := 2) hx hb dL_law_476 (by decide) ?_
  refine lv_iadd hx hb dL_law_477 ?_
  refine va_sld hx hb hX hbl hbA hw.2.2 (law_in (k := 2) rfl (by omega) hL) dL_law_478 ?_
  refine lv_aload_n hx hb dL_law_479 rfl (lv_at hl 0 rfl) ?_
  refine lv_iload_n hx hb dL_law_480 rfl (lv_at hl 3 rfl) ?_
  refine lv_iconst (v := 3) hx hb dL_law_481 (by decide) ?_
  refine lv_iadd hx hb dL_law_482 ?_
  refine va_sld hx hb hX hbl hbA hw.2.2 (law_in (k := 3) rfl (by omega) hL) dL_law_483 ?_
  refine lv_aload_n hx hb dL_law_484 rfl (lv_at hl 0 rfl) ?_
  refine lv_iload_n hx hb dL_law_485 rfl (lv_at hl 3 rfl) ?_
  refine lv_iconst (v := 4) hx hb dL_law_486 (by decide) ?_
  refine lv_iadd hx hb dL_law_487 ?_
  refine va_sld hx hb hX hbl hbA hw.2.2 (law_in (k := 4) rfl (by omega) hL) dL_law_488 ?_
  obtain ⟨o, PC, PR, f1, l1, f2, l2, ⟨b1, b2, b3, b4⟩, hC9, hR9, hI, v, rfl⟩ := St_want (l := l) (D := D) (E := E) (T := T) (a := a) (f := f) (b := bb) hi hB (xs (nI (5 * t) + 1).toNatClampNeg) (xs (nI (5 * t) + 2).toNatClampNeg) (xs (nI (5 * t) + 3).toNatClampNeg) (xs (nI (5 * t) + 4).toNatClampNeg)
  refine law_x (n := 4) (As := [.int (xs (nI (5 * t) + 1).toNatClampNeg), .int (xs (nI (5 * t) + 2).toNatClampNeg), .int (xs (nI (5 * t) + 3).toNatClampNeg), .int (xs (nI (5 * t) + 4).toNatClampNeg)]) (rest := []) hc hw hl.1 hC9 gL_law_X5_want rfl ⟨rfl, by decide +kernel, by decide +kernel, by decide +kernel⟩ b1 b2 (by decide) rfl rfl (Nat.le_of_ble_eq_true rfl) dL_law_489 (fun c1 H locs hPC hw => ?_)
  refine lv_aload_n hx hb dL_law_492 rfl (lv_at hl 2 rfl) ?_
  refine lv_aload_n hx hb dL_law_493 rfl (lv_at hl 0 rfl) ?_
  refine lv_iload_n hx hb dL_law_494 rfl (lv_at hl 3 rfl) ?_
  refine lv_iconst (v := 1) hx hb dL_law_495 (by decide) ?_
  refine lv_iadd hx hb dL_law_496 ?_
  refine va_sld hx hb hX hbl hbA hw.2.2 (law_in (k := 1) rfl (by omega) hL) dL_law_497 ?_
  refine lv_aload_n hx hb dL_law_498 rfl (lv_at hl 0 rfl) ?_
  refine lv_iload_n hx hb dL_law_499 rfl (lv_at hl 3 rfl) ?_
  refine lv_iconst (v := 2) hx hb dL_law_500 (by decide) ?_
  refine lv_iadd hx hb dL_law_501 ?_
  refine va_sld hx hb hX hbl hbA hw.2.2 (law_in (k := 2) rfl (by omega) hL) dL_law_502 ?_
  refine lv_aload_n hx hb dL_law_503 rfl (lv_at hl 0 rfl) ?_
  refine lv_iload_n hx hb dL_law_504 rfl (lv_at hl 3 rfl) ?_
  refine lv_iconst (v := 3) hx hb dL_law_505 (by decide) ?_
  refine lv_iadd hx hb dL_law_506 ?_
  refine va_sld hx hb hX hbl hbA hw.2.2 (law_in (k := 3) rfl (by omega) hL) dL_law_507 ?_
  refine lv_aload_n hx hb dL_law_508 rfl (lv_at hl 0 rfl) ?_
  refine lv_iload_n hx hb dL_law_509 rfl (lv_at hl 3 rfl) ?_
  refine lv_iconst (v := 4) hx hb dL_law_510 (by decide) ?_
  refine lv_iadd hx hb dL_law_511 ?_
  refine va_sld hx hb hX hbl hbA hw.2.2 (law_in (k := 4) rfl (by omega) hL) dL_law_512 ?_
  refine law_y (n := 4) (As := [.int (xs (nI (5 * t) + 1).toNatClampNeg), .int (xs (nI (5 * t) + 2).toNatClampNeg), .int (xs (nI (5 * t) + 3).toNatClampNeg), .int (xs (nI (5 * t) + 4).toNatClampNeg)]) (rest := [.int v]) hc hw hl.1 hR9 gL_law_X6_want rfl ⟨rfl, by decide +kernel, by decide +kernel, by decide +kernel⟩ b3 b4 (by decide) rfl rfl (Nat.le_of_ble_eq_true rfl) dL_law_513 (fun r1 H locs hPR hw => ?_)
  refine lv_icmp_eq (tgt := 1071) hx hb dL_law_516 (by decide) (fun _ => ?_) (fun q => absurd rfl q)
  exact kk c1 r1 H locs (hI c1 r1 hPC hPR) hw
set_option maxHeartbeats 4000000 in
theorem law_c13 (hc : g_C p s m #[Value.ref b] meth cd code RL wsL_law 4 D E T (lwA s)) (hX : va_X b L xs s s.heap) (hbl : b < s.heap.size) (ht : 5 * t + 5 ≤ L) (hL : L ≤ 2560) (hi : Inv (99 * t) c r) (hw : g_W D (lwA s) s (LW E a f bb c r) H locs) (hl : lv_has ls 4 [(0, .ref b), (1, .ref (a 0)), (2, .ref (bb 0)), (3, .int (nI (5 * t)))])
    (kk : ∀ (c1 : CS) (r1 : RS) (H1 : Heap) (locs1 : List Loc), Inv (99 * t + 99) c1 r1 → g_W D (lwA s) s (LW E a f bb c1 r1) H1 locs1 → W p l e room_1 s m #[Value.ref b] below meth cd H1 locs1 118 1827 Q (F0 m 1071 ls [])) : W p l e room_1 s m #[Value.ref b] below meth cd H locs 118 1827 Q (F0 m 521 ls []) := by
  have hx := hc.1
  have hb := hc.2.1
  have hB : 99 * t + 400 < 2 ^ 31 := by omega
  have hbA : ¬ lwA s b := Nat.not_le.mpr hbl
  refine lv_aload_n hx hb dL_law_521 rfl (lv_at hl 1 rfl) ?_
  obtain ⟨o, PC, PR, f1, l1, f2, l2, ⟨b1, b2, b3, b4⟩, hC9, hR9, hI, v, rfl⟩ := St_undo (l := l) (D := D) (E := E) (T := T) (a := a) (f := f) (b := bb) hi hB 
  refine law_x (n := 0) (As := []) (rest := []) hc hw hl.1 hC9 gL_law_X5_undo rfl ⟨rfl, by decide +kernel, by decide +kernel, by decide +kernel⟩ b1 b2 (by decide) rfl rfl (Nat.le_of_ble_eq_true rfl) dL_law_522 (fun c1 H locs hPC hw => ?_)
  refine lv_aload_n hx hb dL_law_525 rfl (lv_at hl 2 rfl) ?_
  refine law_y (n := 0) (As := []) (rest := [.int v]) hc hw hl.1 hR9 gL_law_X6_undo rfl ⟨rfl, by decide +kernel, by decide +kernel, by decide +kernel⟩ b3 b4 (by decide) rfl rfl (Nat.le_of_ble_eq_true rfl) dL_law_526 (fun r1 H locs hPR hw => ?_)
  refine lv_icmp_eq (tgt := 1071) hx hb dL_law_529 (by decide) (fun _ => ?_) (fun q => absurd rfl q)
  exact kk c1 r1 H locs (hI c1 r1 hPC hPR) hw
set_option maxHeartbeats 4000000 in
theorem law_c14 (hc : g_C p s m #[Value.ref b] meth cd code RL wsL_law 4 D E T (lwA s)) (hX : va_X b L xs s s.heap) (hbl : b < s.heap.size) (ht : 5 * t + 5 ≤ L) (hL : L ≤ 2560) (hi : Inv (99 * t) c r) (hw : g_W D (lwA s) s (LW E a f bb c r) H locs) (hl : lv_has ls 4 [(0, .ref b), (1, .ref (a 0)), (2, .ref (bb 0)), (3, .int (nI (5 * t)))])
    (kk : ∀ (c1 : CS) (r1 : RS) (H1 : Heap) (locs1 : List Loc), Inv (99 * t + 99) c1 r1 → g_W D (lwA s) s (LW E a f bb c1 r1) H1 locs1 → W p l e room_1 s m #[Value.ref b] below meth cd H1 locs1 118 1827 Q (F0 m 1071 ls [])) : W p l e room_1 s m #[Value.ref b] below meth cd H locs 118 1827 Q (F0 m 534 ls []) := by
  have hx := hc.1
  have hb := hc.2.1
  have hB : 99 * t + 400 < 2 ^ 31 := by omega
  have hbA : ¬ lwA s b := Nat.not_le.mpr hbl
  refine lv_aload_n hx hb dL_law_534 rfl (lv_at hl 1 rfl) ?_
  refine lv_aload_n hx hb dL_law_535 rfl (lv_at hl 0 rfl) ?_
  refine lv_iload_n hx hb dL_law_536 rfl (lv_at hl 3 rfl) ?_
  refine lv_iconst (v := 1) hx hb dL_law_537 (by decide) ?_
  refine lv_iadd hx hb dL_law_538 ?_
  refine va_sld hx hb hX hbl hbA hw.2.2 (law_in (k := 1) rfl (by omega) hL) dL_law_539 ?_
  obtain ⟨o, PC, PR, f1, l1, f2, l2, ⟨b1, b2, b3, b4⟩, hC9, hR9, hI, v, rfl⟩ := St_plan (l := l) (D := D) (E := E) (T := T) (a := a) (f := f) (b := bb) hi hB (xs (nI (5 * t) + 1).toNatClampNeg)
  refine law_x (n := 1) (As := [.int (xs (nI (5 * t) + 1).toNatClampNeg)]) (rest := []) hc hw hl.1 hC9 gL_law_X5_plan rfl ⟨rfl, by decide +kernel, by decide +kernel, by decide +kernel⟩ b1 b2 (by decide) rfl rfl (Nat.le_of_ble_eq_true rfl) dL_law_540 (fun c1 H locs hPC hw => ?_)
  refine lv_aload_n hx hb dL_law_543 rfl (lv_at hl 2 rfl) ?_
  refine lv_aload_n hx hb dL_law_544 rfl (lv_at hl 0 rfl) ?_
  refine lv_iload_n hx hb dL_law_545 rfl (lv_at hl 3 rfl) ?_
  refine lv_iconst (v := 1) hx hb dL_law_546 (by decide) ?_
  refine lv_iadd hx hb dL_law_547 ?_
  refine va_sld hx hb hX hbl hbA hw.2.2 (law_in (k := 1) rfl (by omega) hL) dL_law_548 ?_
  refine law_y (n := 1) (As := [.int (xs (nI (5 * t) + 1).toNatClampNeg)]) (rest := [.int v]) hc hw hl.1 hR9 gL_law_X6_plan rfl ⟨rfl, by decide +kernel, by decide +kernel, by decide +kernel⟩ b3 b4 (by decide) rfl rfl (Nat.le_of_ble_eq_true rfl) dL_law_549 (fun r1 H locs hPR hw => ?_)
  refine lv_icmp_eq (tgt := 1071) hx hb dL_law_552 (by decide) (fun _ => ?_) (fun q => absurd rfl q)
  exact kk c1 r1 H locs (hI c1 r1 hPC hPR) hw
set_option maxHeartbeats 4000000 in
theorem law_c15 (hc : g_C p s m #[Value.ref b] meth cd code RL wsL_law 4 D E T (lwA s)) (hX : va_X b L xs s s.heap) (hbl : b < s.heap.size) (ht : 5 * t + 5 ≤ L) (hL : L ≤ 2560) (hi : Inv (99 * t) c r) (hw : g_W D (lwA s) s (LW E a f bb c r) H locs) (hl : lv_has ls 4 [(0, .ref b), (1, .ref (a 0)), (2, .ref (bb 0)), (3, .int (nI (5 * t)))])
    (kk : ∀ (c1 : CS) (r1 : RS) (H1 : Heap) (locs1 : List Loc), Inv (99 * t + 99) c1 r1 → g_W D (lwA s) s (LW E a f bb c1 r1) H1 locs1 → W p l e room_1 s m #[Value.ref b] below meth cd H1 locs1 118 1827 Q (F0 m 1071 ls [])) : W p l e room_1 s m #[Value.ref b] below meth cd H locs 118 1827 Q (F0 m 557 ls []) := by
  have hx := hc.1
  have hb := hc.2.1
  have hB : 99 * t + 400 < 2 ^ 31 := by omega
  have hbA : ¬ lwA s b := Nat.not_le.mpr hbl
  refine lv_aload_n hx hb dL_law_557 rfl (lv_at hl 1 rfl) ?_
  refine lv_aload_n hx hb dL_law_558 rfl (lv_at hl 0 rfl) ?_
  refine lv_iload_n hx hb dL_law_559 rfl (lv_at hl 3 rfl) ?_
  refine lv_iconst (v := 1) hx hb dL_law_560 (by decide) ?_
  refine lv_iadd hx hb dL_law_561 ?_
  refine va_sld hx hb hX hbl hbA hw.2.2 (law_in (k := 1) rfl (by omega) hL) dL_law_562 ?_
  obtain ⟨o, PC, PR, f1, l1, f2, l2, ⟨b1, b2, b3, b4⟩, hC9, hR9, hI, v, rfl⟩ := St_next (l := l) (D := D) (E := E) (T := T) (a := a) (f := f) (b := bb) hi hB (xs (nI (5 * t) + 1).toNatClampNeg)
  refine law_x (n := 1) (As := [.int (xs (nI (5 * t) + 1).toNatClampNeg)]) (rest := []) hc hw hl.1 hC9 gL_law_X5_next rfl ⟨rfl, by decide +kernel, by decide +kernel, by decide +kernel⟩ b1 b2 (by decide) rfl rfl (Nat.le_of_ble_eq_true rfl) dL_law_563 (fun c1 H locs hPC hw => ?_)
  refine lv_aload_n hx hb dL_law_566 rfl (lv_at hl 2 rfl) ?_
  refine lv_aload_n hx hb dL_law_567 rfl (lv_at hl 0 rfl) ?_
  refine lv_iload_n hx hb dL_law_568 rfl (lv_at hl 3 rfl) ?_
  refine lv_iconst (v := 1) hx hb dL_law_569 (by decide) ?_
  refine lv_iadd hx hb dL_law_570 ?_
  refine va_sld hx hb hX hbl hbA hw.2.2 (law_in (k := 1) rfl (by omega) hL) dL_law_571 ?_
  refine law_y (n := 1) (As := [.int (xs (nI (5 * t) + 1).toNatClampNeg)]) (rest := [.int v]) hc hw hl.1 hR9 gL_law_X6_next rfl ⟨rfl, by decide +kernel, by decide +kernel, by decide +kernel⟩ b3 b4 (by decide) rfl rfl (Nat.le_of_ble_eq_true rfl) dL_law_572 (fun r1 H locs hPR hw => ?_)
  refine lv_icmp_eq (tgt := 1071) hx hb dL_law_575 (by decide) (fun _ => ?_) (fun q => absurd rfl q)
  exact kk c1 r1 H locs (hI c1 r1 hPC hPR) hw
set_option maxHeartbeats 4000000 in
theorem law_c16 (hc : g_C p s m #[Value.ref b] meth cd code RL wsL_law 4 D E T (lwA s)) (hX : va_X b L xs s s.heap) (hbl : b < s.heap.size) (ht : 5 * t + 5 ≤ L) (hL : L ≤ 2560) (hi : Inv (99 * t) c r) (hw : g_W D (lwA s) s (LW E a f bb c r) H locs) (hl : lv_has ls 4 [(0, .ref b), (1, .ref (a 0)), (2, .ref (bb 0)), (3, .int (nI (5 * t)))])
    (kk : ∀ (c1 : CS) (r1 : RS) (H1 : Heap) (locs1 : List Loc), Inv (99 * t + 99) c1 r1 → g_W D (lwA s) s (LW E a f bb c1 r1) H1 locs1 → W p l e room_1 s m #[Value.ref b] below meth cd H1 locs1 118 1827 Q (F0 m 1071 ls [])) : W p l e room_1 s m #[Value.ref b] below meth cd H locs 118 1827 Q (F0 m 580 ls []) := by
  have hx := hc.1
  have hb := hc.2.1
  have hB : 99 * t + 400 < 2 ^ 31 := by omega
  have hbA : ¬ lwA s b := Nat.not_le.mpr hbl
  refine lv_aload_n hx hb dL_law_580 rfl (lv_at hl 1 rfl) ?_
  refine lv_aload_n hx hb dL_law_581 rfl (lv_at hl 0 rfl) ?_
  refine lv_iload_n hx hb dL_law_582 rfl (lv_at hl 3 rfl) ?_
  refine lv_iconst (v := 1) hx hb dL_law_583 (by decide) ?_
  refine lv_iadd hx hb dL_law_584 ?_
  refine va_sld hx hb hX hbl hbA hw.2.2 (law_in (k := 1) rfl (by omega) hL) dL_law_585 ?_
  refine lv_aload_n hx hb dL_law_586 rfl (lv_at hl 0 rfl) ?_
  refine lv_iload_n hx hb dL_law_587 rfl (lv_at hl 3 rfl) ?_
  refine lv_iconst (v := 2) hx hb dL_law_588 (by decide) ?_
  refine lv_iadd hx hb dL_law_589 ?_
  refine va_sld hx hb hX hbl hbA hw.2.2 (law_in (k := 2) rfl (by omega) hL) dL_law_590 ?_
  obtain ⟨o, PC, PR, f1, l1, f2, l2, ⟨b1, b2, b3, b4⟩, hC9, hR9, hI, v, rfl⟩ := St_ahead (l := l) (D := D) (E := E) (T := T) (a := a) (f := f) (b := bb) hi hB (xs (nI (5 * t) + 1).toNatClampNeg) (xs (nI (5 * t) + 2).toNatClampNeg)
  refine law_x (n := 2) (As := [.int (xs (nI (5 * t) + 1).toNatClampNeg), .int (xs (nI (5 * t) + 2).toNatClampNeg)]) (rest := []) hc hw hl.1 hC9 gL_law_X5_ahead rfl ⟨rfl, by decide +kernel, by decide +kernel, by decide +kernel⟩ b1 b2 (by decide) rfl rfl (Nat.le_of_ble_eq_true rfl) dL_law_591 (fun c1 H locs hPC hw => ?_)
  refine lv_aload_n hx hb dL_law_594 rfl (lv_at hl 2 rfl) ?_
  refine lv_aload_n hx hb dL_law_595 rfl (lv_at hl 0 rfl) ?_
  refine lv_iload_n hx hb dL_law_596 rfl (lv_at hl 3 rfl) ?_
  refine lv_iconst (v := 1) hx hb dL_law_597 (by decide) ?_
  refine lv_iadd hx hb dL_law_598 ?_
  refine va_sld hx hb hX hbl hbA hw.2.2 (law_in (k := 1) rfl (by omega) hL) dL_law_599 ?_
  refine lv_aload_n hx hb dL_law_600 rfl (lv_at hl 0 rfl) ?_
  refine lv_iload_n hx hb dL_law_601 rfl (lv_at hl 3 rfl) ?_
  refine lv_iconst (v := 2) hx hb dL_law_602 (by decide) ?_
  refine lv_iadd hx hb dL_law_603 ?_
  refine va_sld hx hb hX hbl hbA hw.2.2 (law_in (k := 2) rfl (by omega) hL) dL_law_604 ?_
  refine law_y (n := 2) (As := [.int (xs (nI (5 * t) + 1).toNatClampNeg), .int (xs (nI (5 * t) + 2).toNatClampNeg)]) (rest := [.int v]) hc hw hl.1 hR9 gL_law_X6_ahead rfl ⟨rfl, by decide +kernel, by decide +kernel, by decide +kernel⟩ b3 b4 (by decide) rfl rfl (Nat.le_of_ble_eq_true rfl) dL_law_605 (fun r1 H locs hPR hw => ?_)
  refine lv_icmp_eq (tgt := 1071) hx hb dL_law_608 (by decide) (fun _ => ?_) (fun q => absurd rfl q)
  exact kk c1 r1 H locs (hI c1 r1 hPC hPR) hw
set_option maxHeartbeats 4000000 in
theorem law_c17 (hc : g_C p s m #[Value.ref b] meth cd code RL wsL_law 4 D E T (lwA s)) (hX : va_X b L xs s s.heap) (hbl : b < s.heap.size) (ht : 5 * t + 5 ≤ L) (hL : L ≤ 2560) (hi : Inv (99 * t) c r) (hw : g_W D (lwA s) s (LW E a f bb c r) H locs) (hl : lv_has ls 4 [(0, .ref b), (1, .ref (a 0)), (2, .ref (bb 0)), (3, .int (nI (5 * t)))])
    (kk : ∀ (c1 : CS) (r1 : RS) (H1 : Heap) (locs1 : List Loc), Inv (99 * t + 99) c1 r1 → g_W D (lwA s) s (LW E a f bb c1 r1) H1 locs1 → W p l e room_1 s m #[Value.ref b] below meth cd H1 locs1 118 1827 Q (F0 m 1071 ls [])) : W p l e room_1 s m #[Value.ref b] below meth cd H locs 118 1827 Q (F0 m 613 ls []) := by
  have hx := hc.1
  have hb := hc.2.1
  have hB : 99 * t + 400 < 2 ^ 31 := by omega
  have hbA : ¬ lwA s b := Nat.not_le.mpr hbl
  refine lv_aload_n hx hb dL_law_613 rfl (lv_at hl 1 rfl) ?_
  refine lv_aload_n hx hb dL_law_614 rfl (lv_at hl 0 rfl) ?_
  refine lv_iload_n hx hb dL_law_615 rfl (lv_at hl 3 rfl) ?_
  refine lv_iconst (v := 1) hx hb dL_law_616 (by decide) ?_
  refine lv_iadd hx hb dL_law_617 ?_
  refine va_sld hx hb hX hbl hbA hw.2.2 (law_in (k := 1) rfl (by omega) hL) dL_law_618 ?_
  refine lv_aload_n hx hb dL_law_619 rfl (lv_at hl 0 rfl) ?_
  refine lv_iload_n hx hb dL_law_620 rfl (lv_at hl 3 rfl) ?_
  refine lv_iconst (v := 2) hx hb dL_law_621 (by decide) ?_
  refine lv_iadd hx hb dL_law_622 ?_
  refine va_sld hx hb hX hbl hbA hw.2.2 (law_in (k := 2) rfl (by omega) hL) dL_law_623 ?_
  obtain ⟨o, PC, PR, f1, l1, f2, l2, ⟨b1, b2, b3, b4⟩, hC9, hR9, hI, v, rfl⟩ := St_later (l := l) (D := D) (E := E) (T := T) (a := a) (f := f) (b := bb) hi hB (xs (nI (5 * t) + 1).toNatClampNeg) (xs (nI (5 * t) + 2).toNatClampNeg)
  refine law_x (n := 2) (As := [.int (xs (nI (5 * t) + 1).toNatClampNeg), .int (xs (nI (5 * t) + 2).toNatClampNeg)]) (rest := []) hc hw hl.1 hC9 gL_law_X5_later rfl ⟨rfl, by decide +kernel, by decide +kernel, by decide +kernel⟩ b1 b2 (by decide) rfl rfl (Nat.le_of_ble_eq_true rfl) dL_law_624 (fun c1 H locs hPC hw => ?_)
  refine lv_aload_n hx hb dL_law_627 rfl (lv_at hl 2 rfl) ?_
  refine lv_aload_n hx hb dL_law_628 rfl (lv_at hl 0 rfl) ?_
  refine lv_iload_n hx hb dL_law_629 rfl (lv_at hl 3 rfl) ?_
  refine lv_iconst (v := 1) hx hb dL_law_630 (by decide) ?_
  refine lv_iadd hx hb dL_law_631 ?_
  refine va_sld hx hb hX hbl hbA hw.2.2 (law_in (k := 1) rfl (by omega) hL) dL_law_632 ?_
  refine lv_aload_n hx hb dL_law_633 rfl (lv_at hl 0 rfl) ?_
  refine lv_iload_n hx hb dL_law_634 rfl (lv_at hl 3 rfl) ?_
  refine lv_iconst (v := 2) hx hb dL_law_635 (by decide) ?_
  refine lv_iadd hx hb dL_law_636 ?_
  refine va_sld hx hb hX hbl hbA hw.2.2 (law_in (k := 2) rfl (by omega) hL) dL_law_637 ?_
  refine law_y (n := 2) (As := [.int (xs (nI (5 * t) + 1).toNatClampNeg), .int (xs (nI (5 * t) + 2).toNatClampNeg)]) (rest := [.int v]) hc hw hl.1 hR9 gL_law_X6_later rfl ⟨rfl, by decide +kernel, by decide +kernel, by decide +kernel⟩ b3 b4 (by decide) rfl rfl (Nat.le_of_ble_eq_true rfl) dL_law_638 (fun r1 H locs hPR hw => ?_)
  refine lv_icmp_eq (tgt := 1071) hx hb dL_law_641 (by decide) (fun _ => ?_) (fun q => absurd rfl q)
  exact kk c1 r1 H locs (hI c1 r1 hPC hPR) hw
set_option maxHeartbeats 4000000 in
theorem law_c18 (hc : g_C p s m #[Value.ref b] meth cd code RL wsL_law 4 D E T (lwA s)) (hX : va_X b L xs s s.heap) (hbl : b < s.heap.size) (ht : 5 * t + 5 ≤ L) (hL : L ≤ 2560) (hi : Inv (99 * t) c r) (hw : g_W D (lwA s) s (LW E a f bb c r) H locs) (hl : lv_has ls 4 [(0, .ref b), (1, .ref (a 0)), (2, .ref (bb 0)), (3, .int (nI (5 * t)))])
    (kk : ∀ (c1 : CS) (r1 : RS) (H1 : Heap) (locs1 : List Loc), Inv (99 * t + 99) c1 r1 → g_W D (lwA s) s (LW E a f bb c1 r1) H1 locs1 → W p l e room_1 s m #[Value.ref b] below meth cd H1 locs1 118 1827 Q (F0 m 1071 ls [])) : W p l e room_1 s m #[Value.ref b] below meth cd H locs 118 1827 Q (F0 m 646 ls []) := by
  have hx := hc.1
  have hb := hc.2.1
  have hB : 99 * t + 400 < 2 ^ 31 := by omega
  have hbA : ¬ lwA s b := Nat.not_le.mpr hbl
  refine lv_aload_n hx hb dL_law_646 rfl (lv_at hl 1 rfl) ?_
  obtain ⟨o, PC, PR, f1, l1, f2, l2, ⟨b1, b2, b3, b4⟩, hC9, hR9, hI, v, rfl⟩ := St_spun (l := l) (D := D) (E := E) (T := T) (a := a) (f := f) (b := bb) hi hB 
  refine law_x (n := 0) (As := []) (rest := []) hc hw hl.1 hC9 gL_law_X5_spun rfl ⟨rfl, by decide +kernel, by decide +kernel, by decide +kernel⟩ b1 b2 (by decide) rfl rfl (Nat.le_of_ble_eq_true rfl) dL_law_647 (fun c1 H locs hPC hw => ?_)
  refine lv_aload_n hx hb dL_law_650 rfl (lv_at hl 2 rfl) ?_
  refine law_y (n := 0) (As := []) (rest := [.int v]) hc hw hl.1 hR9 gL_law_X6_spun rfl ⟨rfl, by decide +kernel, by decide +kernel, by decide +kernel⟩ b3 b4 (by decide) rfl rfl (Nat.le_of_ble_eq_true rfl) dL_law_651 (fun r1 H locs hPR hw => ?_)
  refine lv_icmp_eq (tgt := 1071) hx hb dL_law_654 (by decide) (fun _ => ?_) (fun q => absurd rfl q)
  exact kk c1 r1 H locs (hI c1 r1 hPC hPR) hw
set_option maxHeartbeats 4000000 in
theorem law_c19 (hc : g_C p s m #[Value.ref b] meth cd code RL wsL_law 4 D E T (lwA s)) (hX : va_X b L xs s s.heap) (hbl : b < s.heap.size) (ht : 5 * t + 5 ≤ L) (hL : L ≤ 2560) (hi : Inv (99 * t) c r) (hw : g_W D (lwA s) s (LW E a f bb c r) H locs) (hl : lv_has ls 4 [(0, .ref b), (1, .ref (a 0)), (2, .ref (bb 0)), (3, .int (nI (5 * t)))])
    (kk : ∀ (c1 : CS) (r1 : RS) (H1 : Heap) (locs1 : List Loc), Inv (99 * t + 99) c1 r1 → g_W D (lwA s) s (LW E a f bb c1 r1) H1 locs1 → W p l e room_1 s m #[Value.ref b] below meth cd H1 locs1 118 1827 Q (F0 m 1071 ls [])) : W p l e room_1 s m #[Value.ref b] below meth cd H locs 118 1827 Q (F0 m 659 ls []) := by
  have hx := hc.1
  have hb := hc.2.1
  have hB : 99 * t + 400 < 2 ^ 31 := by omega
  have hbA : ¬ lwA s b := Nat.not_le.mpr hbl
  refine lv_aload_n hx hb dL_law_659 rfl (lv_at hl 1 rfl) ?_
  obtain ⟨o, PC, PR, f1, l1, f2, l2, ⟨b1, b2, b3, b4⟩, hC9, hR9, hI, v, rfl⟩ := St_dumps (l := l) (D := D) (E := E) (T := T) (a := a) (f := f) (b := bb) hi hB 
  refine law_x (n := 0) (As := []) (rest := []) hc hw hl.1 hC9 gL_law_X5_dumps rfl ⟨rfl, by decide +kernel, by decide +kernel, by decide +kernel⟩ b1 b2 (by decide) rfl rfl (Nat.le_of_ble_eq_true rfl) dL_law_660 (fun c1 H locs hPC hw => ?_)
  refine lv_aload_n hx hb dL_law_663 rfl (lv_at hl 2 rfl) ?_
  refine law_y (n := 0) (As := []) (rest := [.int v]) hc hw hl.1 hR9 gL_law_X6_dumps rfl ⟨rfl, by decide +kernel, by decide +kernel, by decide +kernel⟩ b3 b4 (by decide) rfl rfl (Nat.le_of_ble_eq_true rfl) dL_law_664 (fun r1 H locs hPR hw => ?_)
  refine lv_icmp_eq (tgt := 1071) hx hb dL_law_667 (by decide) (fun _ => ?_) (fun q => absurd rfl q)
  exact kk c1 r1 H locs (hI c1 r1 hPC hPR) hw
set_option maxHeartbeats 4000000 in
theorem law_c20 (hc : g_C p s m #[Value.ref b] meth cd code RL wsL_law 4 D E T (lwA s)) (hX : va_X b L xs s s.heap) (hbl : b < s.heap.size) (ht : 5 * t + 5 ≤ L) (hL : L ≤ 2560) (hi : Inv (99 * t) c r) (hw : g_W D (lwA s) s (LW E a f bb c r) H locs) (hl : lv_has ls 4 [(0, .ref b), (1, .ref (a 0)), (2, .ref (bb 0)), (3, .int (nI (5 * t)))])
    (kk : ∀ (c1 : CS) (r1 : RS) (H1 : Heap) (locs1 : List Loc), Inv (99 * t + 99) c1 r1 → g_W D (lwA s) s (LW E a f bb c1 r1) H1 locs1 → W p l e room_1 s m #[Value.ref b] below meth cd H1 locs1 118 1827 Q (F0 m 1071 ls [])) : W p l e room_1 s m #[Value.ref b] below meth cd H locs 118 1827 Q (F0 m 672 ls []) := by
  have hx := hc.1
  have hb := hc.2.1
  have hB : 99 * t + 400 < 2 ^ 31 := by omega
  have hbA : ¬ lwA s b := Nat.not_le.mpr hbl
  refine lv_aload_n hx hb dL_law_672 rfl (lv_at hl 1 rfl) ?_
  obtain ⟨o, PC, PR, f1, l1, f2, l2, ⟨b1, b2, b3, b4⟩, hC9, hR9, hI, v, rfl⟩ := St_worst (l := l) (D := D) (E := E) (T := T) (a := a) (f := f) (b := bb) hi hB 
  refine law_x (n := 0) (As := []) (rest := []) hc hw hl.1 hC9 gL_law_X5_worst rfl ⟨rfl, by decide +kernel, by decide +kernel, by decide +kernel⟩ b1 b2 (by decide) rfl rfl (Nat.le_of_ble_eq_true rfl) dL_law_673 (fun c1 H locs hPC hw => ?_)
  refine lv_aload_n hx hb dL_law_676 rfl (lv_at hl 2 rfl) ?_
  refine law_y (n := 0) (As := []) (rest := [.int v]) hc hw hl.1 hR9 gL_law_X6_worst rfl ⟨rfl, by decide +kernel, by decide +kernel, by decide +kernel⟩ b3 b4 (by decide) rfl rfl (Nat.le_of_ble_eq_true rfl) dL_law_677 (fun r1 H locs hPR hw => ?_)
  refine lv_icmp_eq (tgt := 1071) hx hb dL_law_680 (by decide) (fun _ => ?_) (fun q => absurd rfl q)
  exact kk c1 r1 H locs (hI c1 r1 hPC hPR) hw
set_option maxHeartbeats 4000000 in
theorem law_c21 (hc : g_C p s m #[Value.ref b] meth cd code RL wsL_law 4 D E T (lwA s)) (hX : va_X b L xs s s.heap) (hbl : b < s.heap.size) (ht : 5 * t + 5 ≤ L) (hL : L ≤ 2560) (hi : Inv (99 * t) c r) (hw : g_W D (lwA s) s (LW E a f bb c r) H locs) (hl : lv_has ls 4 [(0, .ref b), (1, .ref (a 0)), (2, .ref (bb 0)), (3, .int (nI (5 * t)))])
    (kk : ∀ (c1 : CS) (r1 : RS) (H1 : Heap) (locs1 : List Loc), Inv (99 * t + 99) c1 r1 → g_W D (lwA s) s (LW E a f bb c1 r1) H1 locs1 → W p l e room_1 s m #[Value.ref b] below meth cd H1 locs1 118 1827 Q (F0 m 1071 ls [])) : W p l e room_1 s m #[Value.ref b] below meth cd H locs 118 1827 Q (F0 m 685 ls []) := by
  have hx := hc.1
  have hb := hc.2.1
  have hB : 99 * t + 400 < 2 ^ 31 := by omega
  have hbA : ¬ lwA s b := Nat.not_le.mpr hbl
  refine lv_aload_n hx hb dL_law_685 rfl (lv_at hl 1 rfl) ?_
  refine lv_aload_n hx hb dL_law_686 rfl (lv_at hl 0 rfl) ?_
  refine lv_iload_n hx hb dL_law_687 rfl (lv_at hl 3 rfl) ?_
  refine lv_iconst (v := 1) hx hb dL_law_688 (by decide) ?_
  refine lv_iadd hx hb dL_law_689 ?_
  refine va_sld hx hb hX hbl hbA hw.2.2 (law_in (k := 1) rfl (by omega) hL) dL_law_690 ?_
  refine lv_aload_n hx hb dL_law_691 rfl (lv_at hl 0 rfl) ?_
  refine lv_iload_n hx hb dL_law_692 rfl (lv_at hl 3 rfl) ?_
  refine lv_iconst (v := 2) hx hb dL_law_693 (by decide) ?_
  refine lv_iadd hx hb dL_law_694 ?_
  refine va_sld hx hb hX hbl hbA hw.2.2 (law_in (k := 2) rfl (by omega) hL) dL_law_695 ?_
  refine lv_i2l hx hb dL_law_696 rfl ?_
  refine lv_bipush (v := 32) hx hb dL_law_697 (by decide) ?_
  refine lv_lshl hx hb dL_law_699 rfl ?_
  refine lv_aload_n hx hb dL_law_700 rfl (lv_at hl 0 rfl) ?_
  refine lv_iload_n hx hb dL_law_701 rfl (lv_at hl 3 rfl) ?_
  refine lv_iconst (v := 3) hx hb dL_law_702 (by decide) ?_
  refine lv_iadd hx hb dL_law_703 ?_
  refine va_sld hx hb hX hbl hbA hw.2.2 (law_in (k := 3) rfl (by omega) hL) dL_law_704 ?_
  refine lv_i2l hx hb dL_law_705 rfl ?_
  refine lv_ldc2 (v := 4294967295) hx hb hc.2.2.2.2.1 (hc.2.2.2.1 _ (List.mem_of_getElem? (i := 6) rfl)) dL_law_706 ?_
  refine lv_land hx hb dL_law_709 ?_
  refine lv_lor hx hb dL_law_710 ?_
  obtain ⟨o, PC, PR, f1, l1, f2, l2, ⟨b1, b2, b3, b4⟩, hC9, hR9, hI, v, rfl⟩ := St_judge (l := l) (D := D) (E := E) (T := T) (a := a) (f := f) (b := bb) hi hB (xs (nI (5 * t) + 1).toNatClampNeg) (((xs (nI (5 * t) + 2).toNatClampNeg).toInt64 <<< ((32 : Int32).toInt64 &&& 63)) ||| ((xs (nI (5 * t) + 3).toNatClampNeg).toInt64 &&& 4294967295))
  refine law_x (n := 2) (As := [.int (xs (nI (5 * t) + 1).toNatClampNeg), .long (((xs (nI (5 * t) + 2).toNatClampNeg).toInt64 <<< ((32 : Int32).toInt64 &&& 63)) ||| ((xs (nI (5 * t) + 3).toNatClampNeg).toInt64 &&& 4294967295))]) (rest := []) hc hw hl.1 hC9 gL_law_X5_judge rfl ⟨rfl, by decide +kernel, by decide +kernel, by decide +kernel⟩ b1 b2 (by decide) rfl rfl (Nat.le_of_ble_eq_true rfl) dL_law_711 (fun c1 H locs hPC hw => ?_)
  refine lv_aload_n hx hb dL_law_714 rfl (lv_at hl 2 rfl) ?_
  refine lv_aload_n hx hb dL_law_715 rfl (lv_at hl 0 rfl) ?_
  refine lv_iload_n hx hb dL_law_716 rfl (lv_at hl 3 rfl) ?_
  refine lv_iconst (v := 1) hx hb dL_law_717 (by decide) ?_
  refine lv_iadd hx hb dL_law_718 ?_
  refine va_sld hx hb hX hbl hbA hw.2.2 (law_in (k := 1) rfl (by omega) hL) dL_law_719 ?_
  refine lv_aload_n hx hb dL_law_720 rfl (lv_at hl 0 rfl) ?_
  refine lv_iload_n hx hb dL_law_721 rfl (lv_at hl 3 rfl) ?_
  refine lv_iconst (v := 2) hx hb dL_law_722 (by decide) ?_
  refine lv_iadd hx hb dL_law_723 ?_
  refine va_sld hx hb hX hbl hbA hw.2.2 (law_in (k := 2) rfl (by omega) hL) dL_law_724 ?_
  refine lv_i2l hx hb dL_law_725 rfl ?_
  refine lv_bipush (v := 32) hx hb dL_law_726 (by decide) ?_
  refine lv_lshl hx hb dL_law_728 rfl ?_
  refine lv_aload_n hx hb dL_law_729 rfl (lv_at hl 0 rfl) ?_
  refine lv_iload_n hx hb dL_law_730 rfl (lv_at hl 3 rfl) ?_
  refine lv_iconst (v := 3) hx hb dL_law_731 (by decide) ?_
  refine lv_iadd hx hb dL_law_732 ?_
  refine va_sld hx hb hX hbl hbA hw.2.2 (law_in (k := 3) rfl (by omega) hL) dL_law_733 ?_
  refine lv_i2l hx hb dL_law_734 rfl ?_
  refine lv_ldc2 (v := 4294967295) hx hb hc.2.2.2.2.1 (hc.2.2.2.1 _ (List.mem_of_getElem? (i := 6) rfl)) dL_law_735 ?_
  refine lv_land hx hb dL_law_738 ?_
  refine lv_lor hx hb dL_law_739 ?_
  refine law_y (n := 2) (As := [.int (xs (nI (5 * t) + 1).toNatClampNeg), .long (((xs (nI (5 * t) + 2).toNatClampNeg).toInt64 <<< ((32 : Int32).toInt64 &&& 63)) ||| ((xs (nI (5 * t) + 3).toNatClampNeg).toInt64 &&& 4294967295))]) (rest := [.int v]) hc hw hl.1 hR9 gL_law_X6_judge rfl ⟨rfl, by decide +kernel, by decide +kernel, by decide +kernel⟩ b3 b4 (by decide) rfl rfl (Nat.le_of_ble_eq_true rfl) dL_law_740 (fun r1 H locs hPR hw => ?_)
  refine lv_icmp_eq (tgt := 1071) hx hb dL_law_743 (by decide) (fun _ => ?_) (fun q => absurd rfl q)
  exact kk c1 r1 H locs (hI c1 r1 hPC hPR) hw
set_option maxHeartbeats 4000000 in
theorem law_c22 (hc : g_C p s m #[Value.ref b] meth cd code RL wsL_law 4 D E T (lwA s)) (hX : va_X b L xs s s.heap) (hbl : b < s.heap.size) (ht : 5 * t + 5 ≤ L) (hL : L ≤ 2560) (hi : Inv (99 * t) c r) (hw : g_W D (lwA s) s (LW E a f bb c r) H locs) (hl : lv_has ls 4 [(0, .ref b), (1, .ref (a 0)), (2, .ref (bb 0)), (3, .int (nI (5 * t)))])
    (kk : ∀ (c1 : CS) (r1 : RS) (H1 : Heap) (locs1 : List Loc), Inv (99 * t + 99) c1 r1 → g_W D (lwA s) s (LW E a f bb c1 r1) H1 locs1 → W p l e room_1 s m #[Value.ref b] below meth cd H1 locs1 118 1827 Q (F0 m 1071 ls [])) : W p l e room_1 s m #[Value.ref b] below meth cd H locs 118 1827 Q (F0 m 748 ls []) := by
  have hx := hc.1
  have hb := hc.2.1
  have hB : 99 * t + 400 < 2 ^ 31 := by omega
  have hbA : ¬ lwA s b := Nat.not_le.mpr hbl
  refine lv_aload_n hx hb dL_law_748 rfl (lv_at hl 1 rfl) ?_
  refine lv_aload_n hx hb dL_law_749 rfl (lv_at hl 0 rfl) ?_
  refine lv_iload_n hx hb dL_law_750 rfl (lv_at hl 3 rfl) ?_
  refine lv_iconst (v := 1) hx hb dL_law_751 (by decide) ?_
  refine lv_iadd hx hb dL_law_752 ?_
  refine va_sld hx hb hX hbl hbA hw.2.2 (law_in (k := 1) rfl (by omega) hL) dL_law_753 ?_
  refine lv_aload_n hx hb dL_law_754 rfl (lv_at hl 0 rfl) ?_
  refine lv_iload_n hx hb dL_law_755 rfl (lv_at hl 3 rfl) ?_
  refine lv_iconst (v := 2) hx hb dL_law_756 (by decide) ?_
  refine lv_iadd hx hb dL_law_757 ?_
  refine va_sld hx hb hX hbl hbA hw.2.2 (law_in (k := 2) rfl (by omega) hL) dL_law_758 ?_
  refine lv_aload_n hx hb dL_law_759 rfl (lv_at hl 0 rfl) ?_
  refine lv_iload_n hx hb dL_law_760 rfl (lv_at hl 3 rfl) ?_
  refine lv_iconst (v := 3) hx hb dL_law_761 (by decide) ?_
  refine lv_iadd hx hb dL_law_762 ?_
  refine va_sld hx hb hX hbl hbA hw.2.2 (law_in (k := 3) rfl (by omega) hL) dL_law_763 ?_
  refine lv_aload_n hx hb dL_law_764 rfl (lv_at hl 0 rfl) ?_
  refine lv_iload_n hx hb dL_law_765 rfl (lv_at hl 3 rfl) ?_
  refine lv_iconst (v := 4) hx hb dL_law_766 (by decide) ?_
  refine lv_iadd hx hb dL_law_767 ?_
  refine va_sld hx hb hX hbl hbA hw.2.2 (law_in (k := 4) rfl (by omega) hL) dL_law_768 ?_
  obtain ⟨o, PC, PR, f1, l1, f2, l2, ⟨b1, b2, b3, b4⟩, hC9, hR9, hI, v, rfl⟩ := St_see (l := l) (D := D) (E := E) (T := T) (a := a) (f := f) (b := bb) hi hB (xs (nI (5 * t) + 1).toNatClampNeg) (xs (nI (5 * t) + 2).toNatClampNeg) (xs (nI (5 * t) + 3).toNatClampNeg) (xs (nI (5 * t) + 4).toNatClampNeg)
  refine law_x (n := 4) (As := [.int (xs (nI (5 * t) + 1).toNatClampNeg), .int (xs (nI (5 * t) + 2).toNatClampNeg), .int (xs (nI (5 * t) + 3).toNatClampNeg), .int (xs (nI (5 * t) + 4).toNatClampNeg)]) (rest := []) hc hw hl.1 hC9 gL_law_X5_see rfl ⟨rfl, by decide +kernel, by decide +kernel, by decide +kernel⟩ b1 b2 (by decide) rfl rfl (Nat.le_of_ble_eq_true rfl) dL_law_769 (fun c1 H locs hPC hw => ?_)
  refine lv_aload_n hx hb dL_law_772 rfl (lv_at hl 2 rfl) ?_
  refine lv_aload_n hx hb dL_law_773 rfl (lv_at hl 0 rfl) ?_
  refine lv_iload_n hx hb dL_law_774 rfl (lv_at hl 3 rfl) ?_
  refine lv_iconst (v := 1) hx hb dL_law_775 (by decide) ?_
  refine lv_iadd hx hb dL_law_776 ?_
  refine va_sld hx hb hX hbl hbA hw.2.2 (law_in (k := 1) rfl (by omega) hL) dL_law_777 ?_
  refine lv_aload_n hx hb dL_law_778 rfl (lv_at hl 0 rfl) ?_
  refine lv_iload_n hx hb dL_law_779 rfl (lv_at hl 3 rfl) ?_
  refine lv_iconst (v := 2) hx hb dL_law_780 (by decide) ?_
  refine lv_iadd hx hb dL_law_781 ?_
  refine va_sld hx hb hX hbl hbA hw.2.2 (law_in (k := 2) rfl (by omega) hL) dL_law_782 ?_
  refine lv_aload_n hx hb dL_law_783 rfl (lv_at hl 0 rfl) ?_
  refine lv_iload_n hx hb dL_law_784 rfl (lv_at hl 3 rfl) ?_
  refine lv_iconst (v := 3) hx hb dL_law_785 (by decide) ?_
  refine lv_iadd hx hb dL_law_786 ?_
  refine va_sld hx hb hX hbl hbA hw.2.2 (law_in (k := 3) rfl (by omega) hL) dL_law_787 ?_
  refine lv_aload_n hx hb dL_law_788 rfl (lv_at hl 0 rfl) ?_
  refine lv_iload_n hx hb dL_law_789 rfl (lv_at hl 3 rfl) ?_
  refine lv_iconst (v := 4) hx hb dL_law_790 (by decide) ?_
  refine lv_iadd hx hb dL_law_791 ?_
  refine va_sld hx hb hX hbl hbA hw.2.2 (law_in (k := 4) rfl (by omega) hL) dL_law_792 ?_
  refine law_y (n := 4) (As := [.int (xs (nI (5 * t) + 1).toNatClampNeg), .int (xs (nI (5 * t) + 2).toNatClampNeg), .int (xs (nI (5 * t) + 3).toNatClampNeg), .int (xs (nI (5 * t) + 4).toNatClampNeg)]) (rest := [.int v]) hc hw hl.1 hR9 gL_law_X6_see rfl ⟨rfl, by decide +kernel, by decide +kernel, by decide +kernel⟩ b3 b4 (by decide) rfl rfl (Nat.le_of_ble_eq_true rfl) dL_law_793 (fun r1 H locs hPR hw => ?_)
  refine lv_icmp_eq (tgt := 1071) hx hb dL_law_796 (by decide) (fun _ => ?_) (fun q => absurd rfl q)
  exact kk c1 r1 H locs (hI c1 r1 hPC hPR) hw
set_option maxHeartbeats 4000000 in
theorem law_c23 (hc : g_C p s m #[Value.ref b] meth cd code RL wsL_law 4 D E T (lwA s)) (hX : va_X b L xs s s.heap) (hbl : b < s.heap.size) (ht : 5 * t + 5 ≤ L) (hL : L ≤ 2560) (hi : Inv (99 * t) c r) (hw : g_W D (lwA s) s (LW E a f bb c r) H locs) (hl : lv_has ls 4 [(0, .ref b), (1, .ref (a 0)), (2, .ref (bb 0)), (3, .int (nI (5 * t)))])
    (kk : ∀ (c1 : CS) (r1 : RS) (H1 : Heap) (locs1 : List Loc), Inv (99 * t + 99) c1 r1 → g_W D (lwA s) s (LW E a f bb c1 r1) H1 locs1 → W p l e room_1 s m #[Value.ref b] below meth cd H1 locs1 118 1827 Q (F0 m 1071 ls [])) : W p l e room_1 s m #[Value.ref b] below meth cd H locs 118 1827 Q (F0 m 801 ls []) := by
  have hx := hc.1
  have hb := hc.2.1
  have hB : 99 * t + 400 < 2 ^ 31 := by omega
  have hbA : ¬ lwA s b := Nat.not_le.mpr hbl
  refine lv_aload_n hx hb dL_law_801 rfl (lv_at hl 1 rfl) ?_
  obtain ⟨o, PC, PR, f1, l1, f2, l2, ⟨b1, b2, b3, b4⟩, hC9, hR9, hI, v, rfl⟩ := St_unsee (l := l) (D := D) (E := E) (T := T) (a := a) (f := f) (b := bb) hi hB 
  refine law_x (n := 0) (As := []) (rest := []) hc hw hl.1 hC9 gL_law_X5_unsee rfl ⟨rfl, by decide +kernel, by decide +kernel, by decide +kernel⟩ b1 b2 (by decide) rfl rfl (Nat.le_of_ble_eq_true rfl) dL_law_802 (fun c1 H locs hPC hw => ?_)
  refine lv_aload_n hx hb dL_law_805 rfl (lv_at hl 2 rfl) ?_
  refine law_y (n := 0) (As := []) (rest := [.int v]) hc hw hl.1 hR9 gL_law_X6_unsee rfl ⟨rfl, by decide +kernel, by decide +kernel, by decide +kernel⟩ b3 b4 (by decide) rfl rfl (Nat.le_of_ble_eq_true rfl) dL_law_806 (fun r1 H locs hPR hw => ?_)
  refine lv_icmp_eq (tgt := 1071) hx hb dL_law_809 (by decide) (fun _ => ?_) (fun q => absurd rfl q)
  exact kk c1 r1 H locs (hI c1 r1 hPC hPR) hw
set_option maxHeartbeats 4000000 in
theorem law_c24 (hc : g_C p s m #[Value.ref b] meth cd code RL wsL_law 4 D E T (lwA s)) (hX : va_X b L xs s s.heap) (hbl : b < s.heap.size) (ht : 5 * t + 5 ≤ L) (hL : L ≤ 2560) (hi : Inv (99 * t) c r) (hw : g_W D (lwA s) s (LW E a f bb c r) H locs) (hl : lv_has ls 4 [(0, .ref b), (1, .ref (a 0)), (2, .ref (bb 0)), (3, .int (nI (5 * t)))])
    (kk : ∀ (c1 : CS) (r1 : RS) (H1 : Heap) (locs1 : List Loc), Inv (99 * t + 99) c1 r1 → g_W D (lwA s) s (LW E a f bb c1 r1) H1 locs1 → W p l e room_1 s m #[Value.ref b] below meth cd H1 locs1 118 1827 Q (F0 m 1071 ls [])) : W p l e room_1 s m #[Value.ref b] below meth cd H locs 118 1827 Q (F0 m 814 ls []) := by
  have hx := hc.1
  have hb := hc.2.1
  have hB : 99 * t + 400 < 2 ^ 31 := by omega
  have hbA : ¬ lwA s b := Nat.not_le.mpr hbl
  refine lv_aload_n hx hb dL_law_814 rfl (lv_at hl 1 rfl) ?_
  obtain ⟨o, PC, PR, f1, l1, f2, l2, ⟨b1, b2, b3, b4⟩, hC9, hR9, hI, v, rfl⟩ := St_which (l := l) (D := D) (E := E) (T := T) (a := a) (f := f) (b := bb) hi hB 
  refine law_x (n := 0) (As := []) (rest := []) hc hw hl.1 hC9 gL_law_X5_which rfl ⟨rfl, by decide +kernel, by decide +kernel, by decide +kernel⟩ b1 b2 (by decide) rfl rfl (Nat.le_of_ble_eq_true rfl) dL_law_815 (fun c1 H locs hPC hw => ?_)
  refine lv_aload_n hx hb dL_law_818 rfl (lv_at hl 2 rfl) ?_
  refine law_y (n := 0) (As := []) (rest := [.int v]) hc hw hl.1 hR9 gL_law_X6_which rfl ⟨rfl, by decide +kernel, by decide +kernel, by decide +kernel⟩ b3 b4 (by decide) rfl rfl (Nat.le_of_ble_eq_true rfl) dL_law_819 (fun r1 H locs hPR hw => ?_)
  refine lv_icmp_eq (tgt := 1071) hx hb dL_law_822 (by decide) (fun _ => ?_) (fun q => absurd rfl q)
  exact kk c1 r1 H locs (hI c1 r1 hPC hPR) hw
set_option maxHeartbeats 4000000 in
theorem law_c25 (hc : g_C p s m #[Value.ref b] meth cd code RL wsL_law 4 D E T (lwA s)) (hX : va_X b L xs s s.heap) (hbl : b < s.heap.size) (ht : 5 * t + 5 ≤ L) (hL : L ≤ 2560) (hi : Inv (99 * t) c r) (hw : g_W D (lwA s) s (LW E a f bb c r) H locs) (hl : lv_has ls 4 [(0, .ref b), (1, .ref (a 0)), (2, .ref (bb 0)), (3, .int (nI (5 * t)))])
    (kk : ∀ (c1 : CS) (r1 : RS) (H1 : Heap) (locs1 : List Loc), Inv (99 * t + 99) c1 r1 → g_W D (lwA s) s (LW E a f bb c1 r1) H1 locs1 → W p l e room_1 s m #[Value.ref b] below meth cd H1 locs1 118 1827 Q (F0 m 1071 ls [])) : W p l e room_1 s m #[Value.ref b] below meth cd H locs 118 1827 Q (F0 m 827 ls []) := by
  have hx := hc.1
  have hb := hc.2.1
  have hB : 99 * t + 400 < 2 ^ 31 := by omega
  have hbA : ¬ lwA s b := Nat.not_le.mpr hbl
  by_cases hz : xs (nI (5 * t) + 2).toNatClampNeg = 0
  · skip
    refine lv_aload_n hx hb dL_law_827 rfl (lv_at hl 1 rfl) ?_
    refine lv_aload_n hx hb dL_law_828 rfl (lv_at hl 0 rfl) ?_
    refine lv_iload_n hx hb dL_law_829 rfl (lv_at hl 3 rfl) ?_
    refine lv_iconst (v := 1) hx hb dL_law_830 (by decide) ?_
    refine lv_iadd hx hb dL_law_831 ?_
    refine va_sld hx hb hX hbl hbA hw.2.2 (law_in (k := 1) rfl (by omega) hL) dL_law_832 ?_
    refine lv_aload_n hx hb dL_law_833 rfl (lv_at hl 0 rfl) ?_
    refine lv_iload_n hx hb dL_law_834 rfl (lv_at hl 3 rfl) ?_
    refine lv_iconst (v := 2) hx hb dL_law_835 (by decide) ?_
    refine lv_iadd hx hb dL_law_836 ?_
    refine va_sld hx hb hX hbl hbA hw.2.2 (law_in (k := 2) rfl (by omega) hL) dL_law_837 ?_
    refine lv_if_eq (tgt := 845) hx hb dL_law_838 (by decide) (fun _ => ?_) (fun q => absurd hz q)
    refine lv_iconst (v := 0) hx hb dL_law_845 (by decide) ?_
    obtain ⟨o, PC, PR, f1, l1, f2, l2, ⟨b1, b2, b3, b4⟩, hC9, hR9, hI, v, rfl⟩ := St_share (l := l) (D := D) (E := E) (T := T) (a := a) (f := f) (b := bb) hi hB (xs (nI (5 * t) + 1).toNatClampNeg) false
    refine law_x (n := 2) (As := [.int (xs (nI (5 * t) + 1).toNatClampNeg), .int 0]) (rest := []) hc hw hl.1 hC9 gL_law_X5_share rfl ⟨rfl, by decide +kernel, by decide +kernel, by decide +kernel⟩ b1 b2 (by decide) rfl rfl (Nat.le_of_ble_eq_true rfl) dL_law_846 (fun c1 H locs hPC hw => ?_)
    refine lv_aload_n hx hb dL_law_849 rfl (lv_at hl 2 rfl) ?_
    refine lv_aload_n hx hb dL_law_850 rfl (lv_at hl 0 rfl) ?_
    refine lv_iload_n hx hb dL_law_851 rfl (lv_at hl 3 rfl) ?_
    refine lv_iconst (v := 1) hx hb dL_law_852 (by decide) ?_
    refine lv_iadd hx hb dL_law_853 ?_
    refine va_sld hx hb hX hbl hbA hw.2.2 (law_in (k := 1) rfl (by omega) hL) dL_law_854 ?_
    refine lv_aload_n hx hb dL_law_855 rfl (lv_at hl 0 rfl) ?_
    refine lv_iload_n hx hb dL_law_856 rfl (lv_at hl 3 rfl) ?_
    refine lv_iconst (v := 2) hx hb dL_law_857 (by decide) ?_
    refine lv_iadd hx hb dL_law_858 ?_
    refine va_sld hx hb hX hbl hbA hw.2.2 (law_in (k := 2) rfl (by omega) hL) dL_law_859 ?_
    refine lv_if_eq (tgt := 867) hx hb dL_law_860 (by decide) (fun _ => ?_) (fun q => absurd hz q)
    refine lv_iconst (v := 0) hx hb dL_law_867 (by decide) ?_
    refine law_y (n := 2) (As := [.int (xs (nI (5 * t) + 1).toNatClampNeg), .int 0]) (rest := [.int v]) hc hw hl.1 hR9 gL_law_X6_share rfl ⟨rfl, by decide +kernel, by decide +kernel, by decide +kernel⟩ b3 b4 (by decide) rfl rfl (Nat.le_of_ble_eq_true rfl) dL_law_868 (fun r1 H locs hPR hw => ?_)
    refine lv_icmp_eq (tgt := 1071) hx hb dL_law_871 (by decide) (fun _ => ?_) (fun q => absurd rfl q)
    exact kk c1 r1 H locs (hI c1 r1 hPC hPR) hw
  · skip
    refine lv_aload_n hx hb dL_law_827 rfl (lv_at hl 1 rfl) ?_
    refine lv_aload_n hx hb dL_law_828 rfl (lv_at hl 0 rfl) ?_
    refine lv_iload_n hx hb dL_law_829 rfl (lv_at hl 3 rfl) ?_
    refine lv_iconst (v := 1) hx hb dL_law_830 (by decide) ?_
    refine lv_iadd hx hb dL_law_831 ?_
    refine va_sld hx hb hX hbl hbA hw.2.2 (law_in (k := 1) rfl (by omega) hL) dL_law_832 ?_
    refine lv_aload_n hx hb dL_law_833 rfl (lv_at hl 0 rfl) ?_
    refine lv_iload_n hx hb dL_law_834 rfl (lv_at hl 3 rfl) ?_
    refine lv_iconst (v := 2) hx hb dL_law_835 (by decide) ?_
    refine lv_iadd hx hb dL_law_836 ?_
    refine va_sld hx hb hX hbl hbA hw.2.2 (law_in (k := 2) rfl (by omega) hL) dL_law_837 ?_
    refine lv_if_eq (tgt := 845) hx hb dL_law_838 (by decide) (fun q => absurd q hz) (fun _ => ?_)
    refine lv_iconst (v := 1) hx hb dL_law_841 (by decide) ?_
    refine lv_goto (tgt := 846) hx hb dL_law_842 (by decide) ?_
    obtain ⟨o, PC, PR, f1, l1, f2, l2, ⟨b1, b2, b3, b4⟩, hC9, hR9, hI, v, rfl⟩ := St_share (l := l) (D := D) (E := E) (T := T) (a := a) (f := f) (b := bb) hi hB (xs (nI (5 * t) + 1).toNatClampNeg) true
    refine law_x (n := 2) (As := [.int (xs (nI (5 * t) + 1).toNatClampNeg), .int 1]) (rest := []) hc hw hl.1 hC9 gL_law_X5_share rfl ⟨rfl, by decide +kernel, by decide +kernel, by decide +kernel⟩ b1 b2 (by decide) rfl rfl (Nat.le_of_ble_eq_true rfl) dL_law_846 (fun c1 H locs hPC hw => ?_)
    refine lv_aload_n hx hb dL_law_849 rfl (lv_at hl 2 rfl) ?_
    refine lv_aload_n hx hb dL_law_850 rfl (lv_at hl 0 rfl) ?_
    refine lv_iload_n hx hb dL_law_851 rfl (lv_at hl 3 rfl) ?_
    refine lv_iconst (v := 1) hx hb dL_law_852 (by decide) ?_
    refine lv_iadd hx hb dL_law_853 ?_
    refine va_sld hx hb hX hbl hbA hw.2.2 (law_in (k := 1) rfl (by omega) hL) dL_law_854 ?_
    refine lv_aload_n hx hb dL_law_855 rfl (lv_at hl 0 rfl) ?_
    refine lv_iload_n hx hb dL_law_856 rfl (lv_at hl 3 rfl) ?_
    refine lv_iconst (v := 2) hx hb dL_law_857 (by decide) ?_
    refine lv_iadd hx hb dL_law_858 ?_
    refine va_sld hx hb hX hbl hbA hw.2.2 (law_in (k := 2) rfl (by omega) hL) dL_law_859 ?_
    refine lv_if_eq (tgt := 867) hx hb dL_law_860 (by decide) (fun q => absurd q hz) (fun _ => ?_)
    refine lv_iconst (v := 1) hx hb dL_law_863 (by decide) ?_
    refine lv_goto (tgt := 868) hx hb dL_law_864 (by decide) ?_
    refine law_y (n := 2) (As := [.int (xs (nI (5 * t) + 1).toNatClampNeg), .int 1]) (rest := [.int v]) hc hw hl.1 hR9 gL_law_X6_share rfl ⟨rfl, by decide +kernel, by decide +kernel, by decide +kernel⟩ b3 b4 (by decide) rfl rfl (Nat.le_of_ble_eq_true rfl) dL_law_868 (fun r1 H locs hPR hw => ?_)
    refine lv_icmp_eq (tgt := 1071) hx hb dL_law_871 (by decide) (fun _ => ?_) (fun q => absurd rfl q)
    exact kk c1 r1 H locs (hI c1 r1 hPC hPR) hw
set_option maxHeartbeats 4000000 in
theorem law_c26 (hc : g_C p s m #[Value.ref b] meth cd code RL wsL_law 4 D E T (lwA s)) (hX : va_X b L xs s s.heap) (hbl : b < s.heap.size) (ht : 5 * t + 5 ≤ L) (hL : L ≤ 2560) (hi : Inv (99 * t) c r) (hw : g_W D (lwA s) s (LW E a f bb c r) H locs) (hl : lv_has ls 4 [(0, .ref b), (1, .ref (a 0)), (2, .ref (bb 0)), (3, .int (nI (5 * t)))])
    (kk : ∀ (c1 : CS) (r1 : RS) (H1 : Heap) (locs1 : List Loc), Inv (99 * t + 99) c1 r1 → g_W D (lwA s) s (LW E a f bb c1 r1) H1 locs1 → W p l e room_1 s m #[Value.ref b] below meth cd H1 locs1 118 1827 Q (F0 m 1071 ls [])) : W p l e room_1 s m #[Value.ref b] below meth cd H locs 118 1827 Q (F0 m 876 ls []) := by
  have hx := hc.1
  have hb := hc.2.1
  have hB : 99 * t + 400 < 2 ^ 31 := by omega
  have hbA : ¬ lwA s b := Nat.not_le.mpr hbl
  by_cases hz : xs (nI (5 * t) + 2).toNatClampNeg = 0
  · skip
    refine lv_aload_n hx hb dL_law_876 rfl (lv_at hl 1 rfl) ?_
    refine lv_aload_n hx hb dL_law_877 rfl (lv_at hl 0 rfl) ?_
    refine lv_iload_n hx hb dL_law_878 rfl (lv_at hl 3 rfl) ?_
    refine lv_iconst (v := 1) hx hb dL_law_879 (by decide) ?_
    refine lv_iadd hx hb dL_law_880 ?_
    refine va_sld hx hb hX hbl hbA hw.2.2 (law_in (k := 1) rfl (by omega) hL) dL_law_881 ?_
    refine lv_aload_n hx hb dL_law_882 rfl (lv_at hl 0 rfl) ?_
    refine lv_iload_n hx hb dL_law_883 rfl (lv_at hl 3 rfl) ?_
    refine lv_iconst (v := 2) hx hb dL_law_884 (by decide) ?_
    refine lv_iadd hx hb dL_law_885 ?_
    refine va_sld hx hb hX hbl hbA hw.2.2 (law_in (k := 2) rfl (by omega) hL) dL_law_886 ?_
    refine lv_if_eq (tgt := 894) hx hb dL_law_887 (by decide) (fun _ => ?_) (fun q => absurd hz q)
    refine lv_iconst (v := 0) hx hb dL_law_894 (by decide) ?_
    obtain ⟨o, PC, PR, f1, l1, f2, l2, ⟨b1, b2, b3, b4⟩, hC9, hR9, hI, v, rfl⟩ := St_lost (l := l) (D := D) (E := E) (T := T) (a := a) (f := f) (b := bb) hi hB (xs (nI (5 * t) + 1).toNatClampNeg) false
    refine law_x (n := 2) (As := [.int (xs (nI (5 * t) + 1).toNatClampNeg), .int 0]) (rest := []) hc hw hl.1 hC9 gL_law_X5_lost rfl ⟨rfl, by decide +kernel, by decide +kernel, by decide +kernel⟩ b1 b2 (by decide) rfl rfl (Nat.le_of_ble_eq_true rfl) dL_law_895 (fun c1 H locs hPC hw => ?_)
    refine lv_aload_n hx hb dL_law_898 rfl (lv_at hl 2 rfl) ?_
    refine lv_aload_n hx hb dL_law_899 rfl (lv_at hl 0 rfl) ?_
    refine lv_iload_n hx hb dL_law_900 rfl (lv_at hl 3 rfl) ?_
    refine lv_iconst (v := 1) hx hb dL_law_901 (by decide) ?_
    refine lv_iadd hx hb dL_law_902 ?_
    refine va_sld hx hb hX hbl hbA hw.2.2 (law_in (k := 1) rfl (by omega) hL) dL_law_903 ?_
    refine lv_aload_n hx hb dL_law_904 rfl (lv_at hl 0 rfl) ?_
    refine lv_iload_n hx hb dL_law_905 rfl (lv_at hl 3 rfl) ?_
    refine lv_iconst (v := 2) hx hb dL_law_906 (by decide) ?_
    refine lv_iadd hx hb dL_law_907 ?_
    refine va_sld hx hb hX hbl hbA hw.2.2 (law_in (k := 2) rfl (by omega) hL) dL_law_908 ?_
    refine lv_if_eq (tgt := 916) hx hb dL_law_909 (by decide) (fun _ => ?_) (fun q => absurd hz q)
    refine lv_iconst (v := 0) hx hb dL_law_916 (by decide) ?_
    refine law_y (n := 2) (As := [.int (xs (nI (5 * t) + 1).toNatClampNeg), .int 0]) (rest := [.int v]) hc hw hl.1 hR9 gL_law_X6_lost rfl ⟨rfl, by decide +kernel, by decide +kernel, by decide +kernel⟩ b3 b4 (by decide) rfl rfl (Nat.le_of_ble_eq_true rfl) dL_law_917 (fun r1 H locs hPR hw => ?_)
    refine lv_icmp_eq (tgt := 1071) hx hb dL_law_920 (by decide) (fun _ => ?_) (fun q => absurd rfl q)
    exact kk c1 r1 H locs (hI c1 r1 hPC hPR) hw
  · skip
    refine lv_aload_n hx hb dL_law_876 rfl (lv_at hl 1 rfl) ?_
    refine lv_aload_n hx hb dL_law_877 rfl (lv_at hl 0 rfl) ?_
    refine lv_iload_n hx hb dL_law_878 rfl (lv_at hl 3 rfl) ?_
    refine lv_iconst (v := 1) hx hb dL_law_879 (by decide) ?_
    refine lv_iadd hx hb dL_law_880 ?_
    refine va_sld hx hb hX hbl hbA hw.2.2 (law_in (k := 1) rfl (by omega) hL) dL_law_881 ?_
    refine lv_aload_n hx hb dL_law_882 rfl (lv_at hl 0 rfl) ?_
    refine lv_iload_n hx hb dL_law_883 rfl (lv_at hl 3 rfl) ?_
    refine lv_iconst (v := 2) hx hb dL_law_884 (by decide) ?_
    refine lv_iadd hx hb dL_law_885 ?_
    refine va_sld hx hb hX hbl hbA hw.2.2 (law_in (k := 2) rfl (by omega) hL) dL_law_886 ?_
    refine lv_if_eq (tgt := 894) hx hb dL_law_887 (by decide) (fun q => absurd q hz) (fun _ => ?_)
    refine lv_iconst (v := 1) hx hb dL_law_890 (by decide) ?_
    refine lv_goto (tgt := 895) hx hb dL_law_891 (by decide) ?_
    obtain ⟨o, PC, PR, f1, l1, f2, l2, ⟨b1, b2, b3, b4⟩, hC9, hR9, hI, v, rfl⟩ := St_lost (l := l) (D := D) (E := E) (T := T) (a := a) (f := f) (b := bb) hi hB (xs (nI (5 * t) + 1).toNatClampNeg) true
    refine law_x (n := 2) (As := [.int (xs (nI (5 * t) + 1).toNatClampNeg), .int 1]) (rest := []) hc hw hl.1 hC9 gL_law_X5_lost rfl ⟨rfl, by decide +kernel, by decide +kernel, by decide +kernel⟩ b1 b2 (by decide) rfl rfl (Nat.le_of_ble_eq_true rfl) dL_law_895 (fun c1 H locs hPC hw => ?_)
    refine lv_aload_n hx hb dL_law_898 rfl (lv_at hl 2 rfl) ?_
    refine lv_aload_n hx hb dL_law_899 rfl (lv_at hl 0 rfl) ?_
    refine lv_iload_n hx hb dL_law_900 rfl (lv_at hl 3 rfl) ?_
    refine lv_iconst (v := 1) hx hb dL_law_901 (by decide) ?_
    refine lv_iadd hx hb dL_law_902 ?_
    refine va_sld hx hb hX hbl hbA hw.2.2 (law_in (k := 1) rfl (by omega) hL) dL_law_903 ?_
    refine lv_aload_n hx hb dL_law_904 rfl (lv_at hl 0 rfl) ?_
    refine lv_iload_n hx hb dL_law_905 rfl (lv_at hl 3 rfl) ?_
    refine lv_iconst (v := 2) hx hb dL_law_906 (by decide) ?_
    refine lv_iadd hx hb dL_law_907 ?_
    refine va_sld hx hb hX hbl hbA hw.2.2 (law_in (k := 2) rfl (by omega) hL) dL_law_908 ?_
    refine lv_if_eq (tgt := 916) hx hb dL_law_909 (by decide) (fun q => absurd q hz) (fun _ => ?_)
    refine lv_iconst (v := 1) hx hb dL_law_912 (by decide) ?_
    refine lv_goto (tgt := 917) hx hb dL_law_913 (by decide) ?_
    refine law_y (n := 2) (As := [.int (xs (nI (5 * t) + 1).toNatClampNeg), .int 1]) (rest := [.int v]) hc hw hl.1 hR9 gL_law_X6_lost rfl ⟨rfl, by decide +kernel, by decide +kernel, by decide +kernel⟩ b3 b4 (by decide) rfl rfl (Nat.le_of_ble_eq_true rfl) dL_law_917 (fun r1 H locs hPR hw => ?_)
    refine lv_icmp_eq (tgt := 1071) hx hb dL_law_920 (by decide) (fun _ => ?_) (fun q => absurd rfl q)
    exact kk c1 r1 H locs (hI c1 r1 hPC hPR) hw
set_option maxHeartbeats 4000000 in
theorem law_c27 (hc : g_C p s m #[Value.ref b] meth cd code RL wsL_law 4 D E T (lwA s)) (hX : va_X b L xs s s.heap) (hbl : b < s.heap.size) (ht : 5 * t + 5 ≤ L) (hL : L ≤ 2560) (hi : Inv (99 * t) c r) (hw : g_W D (lwA s) s (LW E a f bb c r) H locs) (hl : lv_has ls 4 [(0, .ref b), (1, .ref (a 0)), (2, .ref (bb 0)), (3, .int (nI (5 * t)))])
    (kk : ∀ (c1 : CS) (r1 : RS) (H1 : Heap) (locs1 : List Loc), Inv (99 * t + 99) c1 r1 → g_W D (lwA s) s (LW E a f bb c1 r1) H1 locs1 → W p l e room_1 s m #[Value.ref b] below meth cd H1 locs1 118 1827 Q (F0 m 1071 ls [])) : W p l e room_1 s m #[Value.ref b] below meth cd H locs 118 1827 Q (F0 m 925 ls []) := by
  have hx := hc.1
  have hb := hc.2.1
  have hB : 99 * t + 400 < 2 ^ 31 := by omega
  have hbA : ¬ lwA s b := Nat.not_le.mpr hbl
  refine lv_aload_n hx hb dL_law_925 rfl (lv_at hl 1 rfl) ?_
  refine lv_aload_n hx hb dL_law_926 rfl (lv_at hl 0 rfl) ?_
  refine lv_iload_n hx hb dL_law_927 rfl (lv_at hl 3 rfl) ?_
  refine lv_iconst (v := 1) hx hb dL_law_928 (by decide) ?_
  refine lv_iadd hx hb dL_law_929 ?_
  refine va_sld hx hb hX hbl hbA hw.2.2 (law_in (k := 1) rfl (by omega) hL) dL_law_930 ?_
  refine lv_i2l hx hb dL_law_931 rfl ?_
  refine lv_bipush (v := 32) hx hb dL_law_932 (by decide) ?_
  refine lv_lshl hx hb dL_law_934 rfl ?_
  refine lv_aload_n hx hb dL_law_935 rfl (lv_at hl 0 rfl) ?_
  refine lv_iload_n hx hb dL_law_936 rfl (lv_at hl 3 rfl) ?_
  refine lv_iconst (v := 2) hx hb dL_law_937 (by decide) ?_
  refine lv_iadd hx hb dL_law_938 ?_
  refine va_sld hx hb hX hbl hbA hw.2.2 (law_in (k := 2) rfl (by omega) hL) dL_law_939 ?_
  refine lv_i2l hx hb dL_law_940 rfl ?_
  refine lv_ldc2 (v := 4294967295) hx hb hc.2.2.2.2.1 (hc.2.2.2.1 _ (List.mem_of_getElem? (i := 6) rfl)) dL_law_941 ?_
  refine lv_land hx hb dL_law_944 ?_
  refine lv_lor hx hb dL_law_945 ?_
  obtain ⟨o, PC, PR, f1, l1, f2, l2, ⟨b1, b2, b3, b4⟩, hC9, hR9, hI, v, rfl⟩ := St_seed (l := l) (D := D) (E := E) (T := T) (a := a) (f := f) (b := bb) hi hB (((xs (nI (5 * t) + 1).toNatClampNeg).toInt64 <<< ((32 : Int32).toInt64 &&& 63)) ||| ((xs (nI (5 * t) + 2).toNatClampNeg).toInt64 &&& 4294967295))
  refine law_x (n := 1) (As := [.long (((xs (nI (5 * t) + 1).toNatClampNeg).toInt64 <<< ((32 : Int32).toInt64 &&& 63)) ||| ((xs (nI (5 * t) + 2).toNatClampNeg).toInt64 &&& 4294967295))]) (rest := []) hc hw hl.1 hC9 gL_law_X5_seed rfl ⟨rfl, by decide +kernel, by decide +kernel, by decide +kernel⟩ b1 b2 (by decide) rfl rfl (Nat.le_of_ble_eq_true rfl) dL_law_946 (fun c1 H locs hPC hw => ?_)
  refine lv_aload_n hx hb dL_law_949 rfl (lv_at hl 2 rfl) ?_
  refine lv_aload_n hx hb dL_law_950 rfl (lv_at hl 0 rfl) ?_
  refine lv_iload_n hx hb dL_law_951 rfl (lv_at hl 3 rfl) ?_
  refine lv_iconst (v := 1) hx hb dL_law_952 (by decide) ?_
  refine lv_iadd hx hb dL_law_953 ?_
  refine va_sld hx hb hX hbl hbA hw.2.2 (law_in (k := 1) rfl (by omega) hL) dL_law_954 ?_
  refine lv_i2l hx hb dL_law_955 rfl ?_
  refine lv_bipush (v := 32) hx hb dL_law_956 (by decide) ?_
  refine lv_lshl hx hb dL_law_958 rfl ?_
  refine lv_aload_n hx hb dL_law_959 rfl (lv_at hl 0 rfl) ?_
  refine lv_iload_n hx hb dL_law_960 rfl (lv_at hl 3 rfl) ?_
  refine lv_iconst (v := 2) hx hb dL_law_961 (by decide) ?_
  refine lv_iadd hx hb dL_law_962 ?_
  refine va_sld hx hb hX hbl hbA hw.2.2 (law_in (k := 2) rfl (by omega) hL) dL_law_963 ?_
  refine lv_i2l hx hb dL_law_964 rfl ?_
  refine lv_ldc2 (v := 4294967295) hx hb hc.2.2.2.2.1 (hc.2.2.2.1 _ (List.mem_of_getElem? (i := 6) rfl)) dL_law_965 ?_
  refine lv_land hx hb dL_law_968 ?_
  refine lv_lor hx hb dL_law_969 ?_
  refine law_y (n := 1) (As := [.long (((xs (nI (5 * t) + 1).toNatClampNeg).toInt64 <<< ((32 : Int32).toInt64 &&& 63)) ||| ((xs (nI (5 * t) + 2).toNatClampNeg).toInt64 &&& 4294967295))]) (rest := [.long v]) hc hw hl.1 hR9 gL_law_X6_seed rfl ⟨rfl, by decide +kernel, by decide +kernel, by decide +kernel⟩ b3 b4 (by decide) rfl rfl (Nat.le_of_ble_eq_true rfl) dL_law_970 (fun r1 H locs hPR hw => ?_)
  refine W.lcmp hx hb dL_law_973 ?_
  refine lv_if_eq (tgt := 1071) hx hb dL_law_974 (by decide) (fun _ => ?_) (fun q => absurd (lg_cmp0 v) q)
  exact kk c1 r1 H locs (hI c1 r1 hPC hPR) hw
set_option maxHeartbeats 4000000 in
theorem law_c28 (hc : g_C p s m #[Value.ref b] meth cd code RL wsL_law 4 D E T (lwA s)) (hX : va_X b L xs s s.heap) (hbl : b < s.heap.size) (ht : 5 * t + 5 ≤ L) (hL : L ≤ 2560) (hi : Inv (99 * t) c r) (hw : g_W D (lwA s) s (LW E a f bb c r) H locs) (hl : lv_has ls 4 [(0, .ref b), (1, .ref (a 0)), (2, .ref (bb 0)), (3, .int (nI (5 * t)))])
    (kk : ∀ (c1 : CS) (r1 : RS) (H1 : Heap) (locs1 : List Loc), Inv (99 * t + 99) c1 r1 → g_W D (lwA s) s (LW E a f bb c1 r1) H1 locs1 → W p l e room_1 s m #[Value.ref b] below meth cd H1 locs1 118 1827 Q (F0 m 1071 ls [])) : W p l e room_1 s m #[Value.ref b] below meth cd H locs 118 1827 Q (F0 m 979 ls []) := by
  have hx := hc.1
  have hb := hc.2.1
  have hB : 99 * t + 400 < 2 ^ 31 := by omega
  have hbA : ¬ lwA s b := Nat.not_le.mpr hbl
  refine lv_aload_n hx hb dL_law_979 rfl (lv_at hl 1 rfl) ?_
  refine lv_aload_n hx hb dL_law_980 rfl (lv_at hl 0 rfl) ?_
  refine lv_iload_n hx hb dL_law_981 rfl (lv_at hl 3 rfl) ?_
  refine lv_iconst (v := 1) hx hb dL_law_982 (by decide) ?_
  refine lv_iadd hx hb dL_law_983 ?_
  refine va_sld hx hb hX hbl hbA hw.2.2 (law_in (k := 1) rfl (by omega) hL) dL_law_984 ?_
  obtain ⟨o, PC, PR, f1, l1, f2, l2, ⟨b1, b2, b3, b4⟩, hC9, hR9, hI, v, rfl⟩ := St_drawn (l := l) (D := D) (E := E) (T := T) (a := a) (f := f) (b := bb) hi hB (xs (nI (5 * t) + 1).toNatClampNeg)
  refine law_x (n := 1) (As := [.int (xs (nI (5 * t) + 1).toNatClampNeg)]) (rest := []) hc hw hl.1 hC9 gL_law_X5_drawn rfl ⟨rfl, by decide +kernel, by decide +kernel, by decide +kernel⟩ b1 b2 (by decide) rfl rfl (Nat.le_of_ble_eq_true rfl) dL_law_985 (fun c1 H locs hPC hw => ?_)
  refine lv_aload_n hx hb dL_law_988 rfl (lv_at hl 2 rfl) ?_
  refine lv_aload_n hx hb dL_law_989 rfl (lv_at hl 0 rfl) ?_
  refine lv_iload_n hx hb dL_law_990 rfl (lv_at hl 3 rfl) ?_
  refine lv_iconst (v := 1) hx hb dL_law_991 (by decide) ?_
  refine lv_iadd hx hb dL_law_992 ?_
  refine va_sld hx hb hX hbl hbA hw.2.2 (law_in (k := 1) rfl (by omega) hL) dL_law_993 ?_
  refine law_y (n := 1) (As := [.int (xs (nI (5 * t) + 1).toNatClampNeg)]) (rest := [.int v]) hc hw hl.1 hR9 gL_law_X6_drawn rfl ⟨rfl, by decide +kernel, by decide +kernel, by decide +kernel⟩ b3 b4 (by decide) rfl rfl (Nat.le_of_ble_eq_true rfl) dL_law_994 (fun r1 H locs hPR hw => ?_)
  refine lv_icmp_eq (tgt := 1071) hx hb dL_law_997 (by decide) (fun _ => ?_) (fun q => absurd rfl q)
  exact kk c1 r1 H locs (hI c1 r1 hPC hPR) hw
set_option maxHeartbeats 4000000 in
theorem law_c29 (hc : g_C p s m #[Value.ref b] meth cd code RL wsL_law 4 D E T (lwA s)) (hX : va_X b L xs s s.heap) (hbl : b < s.heap.size) (ht : 5 * t + 5 ≤ L) (hL : L ≤ 2560) (hi : Inv (99 * t) c r) (hw : g_W D (lwA s) s (LW E a f bb c r) H locs) (hl : lv_has ls 4 [(0, .ref b), (1, .ref (a 0)), (2, .ref (bb 0)), (3, .int (nI (5 * t)))])
    (kk : ∀ (c1 : CS) (r1 : RS) (H1 : Heap) (locs1 : List Loc), Inv (99 * t + 99) c1 r1 → g_W D (lwA s) s (LW E a f bb c1 r1) H1 locs1 → W p l e room_1 s m #[Value.ref b] below meth cd H1 locs1 118 1827 Q (F0 m 1071 ls [])) : W p l e room_1 s m #[Value.ref b] below meth cd H locs 118 1827 Q (F0 m 1002 ls []) := by
  have hx := hc.1
  have hb := hc.2.1
  have hB : 99 * t + 400 < 2 ^ 31 := by omega
  have hbA : ¬ lwA s b := Nat.not_le.mpr hbl
  refine lv_aload_n hx hb dL_law_1002 rfl (lv_at hl 1 rfl) ?_
  refine lv_aload_n hx hb dL_law_1003 rfl (lv_at hl 0 rfl) ?_
  refine lv_iload_n hx hb dL_law_1004 rfl (lv_at hl 3 rfl) ?_
  refine lv_iconst (v := 1) hx hb dL_law_1005 (by decide) ?_
  refine lv_iadd hx hb dL_law_1006 ?_
  refine va_sld hx hb hX hbl hbA hw.2.2 (law_in (k := 1) rfl (by omega) hL) dL_law_1007 ?_
  obtain ⟨o, PC, PR, f1, l1, f2, l2, ⟨b1, b2, b3, b4⟩, hC9, hR9, hI, v, rfl⟩ := St_keep (l := l) (D := D) (E := E) (T := T) (a := a) (f := f) (b := bb) hi hB (xs (nI (5 * t) + 1).toNatClampNeg)
  refine law_x (n := 1) (As := [.int (xs (nI (5 * t) + 1).toNatClampNeg)]) (rest := []) hc hw hl.1 hC9 gL_law_X5_keep rfl ⟨rfl, by decide +kernel, by decide +kernel, by decide +kernel⟩ b1 b2 (by decide) rfl rfl (Nat.le_of_ble_eq_true rfl) dL_law_1008 (fun c1 H locs hPC hw => ?_)
  refine lv_aload_n hx hb dL_law_1011 rfl (lv_at hl 2 rfl) ?_
  refine lv_aload_n hx hb dL_law_1012 rfl (lv_at hl 0 rfl) ?_
  refine lv_iload_n hx hb dL_law_1013 rfl (lv_at hl 3 rfl) ?_
  refine lv_iconst (v := 1) hx hb dL_law_1014 (by decide) ?_
  refine lv_iadd hx hb dL_law_1015 ?_
  refine va_sld hx hb hX hbl hbA hw.2.2 (law_in (k := 1) rfl (by omega) hL) dL_law_1016 ?_
  refine law_y (n := 1) (As := [.int (xs (nI (5 * t) + 1).toNatClampNeg)]) (rest := [.int v]) hc hw hl.1 hR9 gL_law_X6_keep rfl ⟨rfl, by decide +kernel, by decide +kernel, by decide +kernel⟩ b3 b4 (by decide) rfl rfl (Nat.le_of_ble_eq_true rfl) dL_law_1017 (fun r1 H locs hPR hw => ?_)
  refine lv_icmp_eq (tgt := 1071) hx hb dL_law_1020 (by decide) (fun _ => ?_) (fun q => absurd rfl q)
  exact kk c1 r1 H locs (hI c1 r1 hPC hPR) hw
set_option maxHeartbeats 4000000 in
theorem law_c30 (hc : g_C p s m #[Value.ref b] meth cd code RL wsL_law 4 D E T (lwA s)) (hX : va_X b L xs s s.heap) (hbl : b < s.heap.size) (ht : 5 * t + 5 ≤ L) (hL : L ≤ 2560) (hi : Inv (99 * t) c r) (hw : g_W D (lwA s) s (LW E a f bb c r) H locs) (hl : lv_has ls 4 [(0, .ref b), (1, .ref (a 0)), (2, .ref (bb 0)), (3, .int (nI (5 * t)))])
    (kk : ∀ (c1 : CS) (r1 : RS) (H1 : Heap) (locs1 : List Loc), Inv (99 * t + 99) c1 r1 → g_W D (lwA s) s (LW E a f bb c1 r1) H1 locs1 → W p l e room_1 s m #[Value.ref b] below meth cd H1 locs1 118 1827 Q (F0 m 1071 ls [])) : W p l e room_1 s m #[Value.ref b] below meth cd H locs 118 1827 Q (F0 m 1025 ls []) := by
  have hx := hc.1
  have hb := hc.2.1
  have hB : 99 * t + 400 < 2 ^ 31 := by omega
  have hbA : ¬ lwA s b := Nat.not_le.mpr hbl
  refine lv_aload_n hx hb dL_law_1025 rfl (lv_at hl 1 rfl) ?_
  refine lv_aload_n hx hb dL_law_1026 rfl (lv_at hl 0 rfl) ?_
  refine lv_iload_n hx hb dL_law_1027 rfl (lv_at hl 3 rfl) ?_
  refine lv_iconst (v := 1) hx hb dL_law_1028 (by decide) ?_
  refine lv_iadd hx hb dL_law_1029 ?_
  refine va_sld hx hb hX hbl hbA hw.2.2 (law_in (k := 1) rfl (by omega) hL) dL_law_1030 ?_
  obtain ⟨o, PC, PR, f1, l1, f2, l2, ⟨b1, b2, b3, b4⟩, hC9, hR9, hI, v, rfl⟩ := St_again (l := l) (D := D) (E := E) (T := T) (a := a) (f := f) (b := bb) hi hB (xs (nI (5 * t) + 1).toNatClampNeg)
  refine law_x (n := 1) (As := [.int (xs (nI (5 * t) + 1).toNatClampNeg)]) (rest := []) hc hw hl.1 hC9 gL_law_X5_again rfl ⟨rfl, by decide +kernel, by decide +kernel, by decide +kernel⟩ b1 b2 (by decide) rfl rfl (Nat.le_of_ble_eq_true rfl) dL_law_1031 (fun c1 H locs hPC hw => ?_)
  refine lv_aload_n hx hb dL_law_1034 rfl (lv_at hl 2 rfl) ?_
  refine lv_aload_n hx hb dL_law_1035 rfl (lv_at hl 0 rfl) ?_
  refine lv_iload_n hx hb dL_law_1036 rfl (lv_at hl 3 rfl) ?_
  refine lv_iconst (v := 1) hx hb dL_law_1037 (by decide) ?_
  refine lv_iadd hx hb dL_law_1038 ?_
  refine va_sld hx hb hX hbl hbA hw.2.2 (law_in (k := 1) rfl (by omega) hL) dL_law_1039 ?_
  refine law_y (n := 1) (As := [.int (xs (nI (5 * t) + 1).toNatClampNeg)]) (rest := [.int v]) hc hw hl.1 hR9 gL_law_X6_again rfl ⟨rfl, by decide +kernel, by decide +kernel, by decide +kernel⟩ b3 b4 (by decide) rfl rfl (Nat.le_of_ble_eq_true rfl) dL_law_1040 (fun r1 H locs hPR hw => ?_)
  refine lv_icmp_eq (tgt := 1071) hx hb dL_law_1043 (by decide) (fun _ => ?_) (fun q => absurd rfl q)
  exact kk c1 r1 H locs (hI c1 r1 hPC hPR) hw
set_option maxHeartbeats 4000000 in
theorem law_c31 (hc : g_C p s m #[Value.ref b] meth cd code RL wsL_law 4 D E T (lwA s)) (hX : va_X b L xs s s.heap) (hbl : b < s.heap.size) (ht : 5 * t + 5 ≤ L) (hL : L ≤ 2560) (hi : Inv (99 * t) c r) (hw : g_W D (lwA s) s (LW E a f bb c r) H locs) (hl : lv_has ls 4 [(0, .ref b), (1, .ref (a 0)), (2, .ref (bb 0)), (3, .int (nI (5 * t)))])
    (kk : ∀ (c1 : CS) (r1 : RS) (H1 : Heap) (locs1 : List Loc), Inv (99 * t + 99) c1 r1 → g_W D (lwA s) s (LW E a f bb c1 r1) H1 locs1 → W p l e room_1 s m #[Value.ref b] below meth cd H1 locs1 118 1827 Q (F0 m 1071 ls [])) : W p l e room_1 s m #[Value.ref b] below meth cd H locs 118 1827 Q (F0 m 1048 ls []) := by
  have hx := hc.1
  have hb := hc.2.1
  have hB : 99 * t + 400 < 2 ^ 31 := by omega
  have hbA : ¬ lwA s b := Nat.not_le.mpr hbl
  refine lv_aload_n hx hb dL_law_1048 rfl (lv_at hl 1 rfl) ?_
  refine lv_aload_n hx hb dL_law_1049 rfl (lv_at hl 0 rfl) ?_
  refine lv_iload_n hx hb dL_law_1050 rfl (lv_at hl 3 rfl) ?_
  refine lv_iconst (v := 1) hx hb dL_law_1051 (by decide) ?_
  refine lv_iadd hx hb dL_law_1052 ?_
  refine va_sld hx hb hX hbl hbA hw.2.2 (law_in (k := 1) rfl (by omega) hL) dL_law_1053 ?_
  obtain ⟨o, PC, PR, f1, l1, f2, l2, ⟨b1, b2, b3, b4⟩, hC9, hR9, hI, v, rfl⟩ := St_count (l := l) (D := D) (E := E) (T := T) (a := a) (f := f) (b := bb) hi hB (xs (nI (5 * t) + 1).toNatClampNeg)
  refine law_x (n := 1) (As := [.int (xs (nI (5 * t) + 1).toNatClampNeg)]) (rest := []) hc hw hl.1 hC9 gL_law_X5_count rfl ⟨rfl, by decide +kernel, by decide +kernel, by decide +kernel⟩ b1 b2 (by decide) rfl rfl (Nat.le_of_ble_eq_true rfl) dL_law_1054 (fun c1 H locs hPC hw => ?_)
  refine lv_aload_n hx hb dL_law_1057 rfl (lv_at hl 2 rfl) ?_
  refine lv_aload_n hx hb dL_law_1058 rfl (lv_at hl 0 rfl) ?_
  refine lv_iload_n hx hb dL_law_1059 rfl (lv_at hl 3 rfl) ?_
  refine lv_iconst (v := 1) hx hb dL_law_1060 (by decide) ?_
  refine lv_iadd hx hb dL_law_1061 ?_
  refine va_sld hx hb hX hbl hbA hw.2.2 (law_in (k := 1) rfl (by omega) hL) dL_law_1062 ?_
  refine law_y (n := 1) (As := [.int (xs (nI (5 * t) + 1).toNatClampNeg)]) (rest := [.int v]) hc hw hl.1 hR9 gL_law_X6_count rfl ⟨rfl, by decide +kernel, by decide +kernel, by decide +kernel⟩ b3 b4 (by decide) rfl rfl (Nat.le_of_ble_eq_true rfl) dL_law_1063 (fun r1 H locs hPR hw => ?_)
  refine lv_icmp_eq (tgt := 1071) hx hb dL_law_1066 (by decide) (fun _ => ?_) (fun q => absurd rfl q)
  exact kk c1 r1 H locs (hI c1 r1 hPC hPR) hw
set_option maxHeartbeats 8000000 in
theorem law_loop (hc : g_C p s m #[Value.ref b] meth cd code RL wsL_law 4 D E T (lwA s)) (hX : va_X b L xs s s.heap) (hbl : b < s.heap.size) (hL : L ≤ 2560) (kend : ∀ (H1 : Heap) (locs1 : List Loc) (ls1 : Array Slot), (∀ q ∈ locs1, s.heap.size ≤ q.base) → W p l e room_1 s m #[Value.ref b] below meth cd H1 locs1 118 1827 Q (F0 m 1077 ls1 [])) :
    ∀ (n t : Nat), 5 * t ≤ L → L < 5 * (t + n) → ∀ (c : CS) (r : RS) (H : Heap) (locs : List Loc) (ls : Array Slot), Inv (99 * t) c r → g_W D (lwA s) s (LW E a f bb c r) H locs → lv_has ls 4 [(0, .ref b), (1, .ref (a 0)), (2, .ref (bb 0)), (3, .int (nI (5 * t)))] → W p l e room_1 s m #[Value.ref b] below meth cd H locs 118 1827 Q (F0 m 18 ls []) := by
  intro n
  induction n with
  | zero =>
    intro t h1 h2
    exact absurd h2 (by omega)
  | succ n ih =>
    intro t h1 h2 c r H locs ls hi hw hl
    have hx := hc.1
    have hb := hc.2.1
    have hbA : ¬ lwA s b := Nat.not_le.mpr hbl
    refine lv_iload_n hx hb dL_law_18 rfl (lv_at hl 3 rfl) ?_
    refine lv_aload_n hx hb dL_law_19 rfl (lv_at hl 0 rfl) ?_
    refine va_slen hx hb hX hbl hbA hw.2.2 dL_law_20 ?_
    refine lv_iconst (v := 5) hx hb dL_law_21 (by decide) ?_
    refine lv_isub hx hb dL_law_22 ?_
    have e5 : (nI L - nI 5).toInt = (L : Int) - 5 := pk_sub_toInt (by omega) (by decide)
    have et : (nI (5 * t)).toInt = ((5 * t : Nat) : Int) := nI_ti (by omega)
    refine lv_icmp_gt (tgt := 1077) hx hb dL_law_23 (by decide) (fun _ => kend H locs ls (fun q hq => hw.2.2.2.2 q hq)) (fun cg => ?_)
    have ht : 5 * t + 5 ≤ L := by
      have h3 : ¬ (nI L - nI 5) < nI (5 * t) := cg
      rw [Int32.lt_iff_toInt_lt, e5, et] at h3
      omega
    have kk : ∀ (c1 : CS) (r1 : RS) (H1 : Heap) (locs1 : List Loc), Inv (99 * t + 99) c1 r1 → g_W D (lwA s) s (LW E a f bb c1 r1) H1 locs1 → W p l e room_1 s m #[Value.ref b] below meth cd H1 locs1 118 1827 Q (F0 m 1071 ls []) := by
      intro c1 r1 H1 locs1 hi1 hw1
      refine lv_iinc (v := nI (5 * t + 5)) (lv' := [(3, .int (nI (5 * t + 5))), (0, .ref b), (1, .ref (a 0)), (2, .ref (bb 0))]) hx hb dL_law_1071 hl (k := 3) rfl (n_inc5 rfl) (by decide) rfl (fun ls hl => ?_)
      refine lv_goto (tgt := 18) hx hb dL_law_1074 (by decide) ?_
      exact ih (t + 1) (by omega) (by omega) c1 r1 H1 locs1 ls hi1 hw1 (lv_sub hl [1, 2, 3, 0] rfl)
    refine lv_aload_n hx hb dL_law_26 rfl (lv_at hl 0 rfl) ?_
    refine lv_iload_n hx hb dL_law_27 rfl (lv_at hl 3 rfl) ?_
    refine va_sld hx hb hX hbl hbA hw.2.2 (vp_in_nI (n := 5 * t) (by omega) (by omega)) dL_law_28 ?_
    refine lv_bipush (v := 31) hx hb dL_law_29 (by decide) ?_
    refine lv_iand hx hb dL_law_31 ?_
    generalize xs (nI (5 * t)).toNatClampNeg &&& 31 = sel
    by_cases y_0 : sel = 0
    · refine lv_tableIn (off := 144) (tgt := 176) hx hb dL_law_32 (by rw [y_0]; decide) (by rw [y_0]; decide) (by rw [y_0]; rfl) (by decide) ?_
      exact law_c0 hc hX hbl ht hL hi hw hl kk
    by_cases y_1 : sel = 1
    · refine lv_tableIn (off := 167) (tgt := 199) hx hb dL_law_32 (by rw [y_1]; decide) (by rw [y_1]; decide) (by rw [y_1]; rfl) (by decide) ?_
      exact law_c1 hc hX hbl ht hL hi hw hl kk
    by_cases y_2 : sel = 2
    · refine lv_tableIn (off := 180) (tgt := 212) hx hb dL_law_32 (by rw [y_2]; decide) (by rw [y_2]; decide) (by rw [y_2]; rfl) (by decide) ?_
      exact law_c2 hc hX hbl ht hL hi hw hl kk
    by_cases y_3 : sel = 3
    · refine lv_tableIn (off := 193) (tgt := 225) hx hb dL_law_32 (by rw [y_3]; decide) (by rw [y_3]; decide) (by rw [y_3]; rfl) (by decide) ?_
      exact law_c3 hc hX hbl ht hL hi hw hl kk
    by_cases y_4 : sel = 4
    · refine lv_tableIn (off := 206) (tgt := 238) hx hb dL_law_32 (by rw [y_4]; decide) (by rw [y_4]; decide) (by rw [y_4]; rfl) (by decide) ?_
      exact law_c4 hc hX hbl ht hL hi hw hl kk
    by_cases y_5 : sel = 5
    · refine lv_tableIn (off := 239) (tgt := 271) hx hb dL_law_32 (by rw [y_5]; decide) (by rw [y_5]; decide) (by rw [y_5]; rfl) (by decide) ?_
      exact law_c5 hc hX hbl ht hL hi hw hl kk
    by_cases y_6 : sel = 6
    · refine lv_tableIn (off := 298) (tgt := 330) hx hb dL_law_32 (by rw [y_6]; decide) (by rw [y_6]; decide) (by rw [y_6]; rfl) (by decide) ?_
      exact law_c6 hc hX hbl ht hL hi hw hl kk
    by_cases y_7 : sel = 7
    · refine lv_tableIn (off := 321) (tgt := 353) hx hb dL_law_32 (by rw [y_7]; decide) (by rw [y_7]; decide) (by rw [y_7]; rfl) (by decide) ?_
      exact law_c7 hc hX hbl ht hL hi hw hl kk
    by_cases y_8 : sel = 8
    · refine lv_tableIn (off := 344) (tgt := 376) hx hb dL_law_32 (by rw [y_8]; decide) (by rw [y_8]; decide) (by rw [y_8]; rfl) (by decide) ?_
      exact law_c8 hc hX hbl ht hL hi hw hl kk
    by_cases y_9 : sel = 9
    · refine lv_tableIn (off := 367) (tgt := 399) hx hb dL_law_32 (by rw [y_9]; decide) (by rw [y_9]; decide) (by rw [y_9]; rfl) (by decide) ?_
      exact law_c9 hc hX hbl ht hL hi hw hl kk
    by_cases y_10 : sel = 10
    · refine lv_tableIn (off := 390) (tgt := 422) hx hb dL_law_32 (by rw [y_10]; decide) (by rw [y_10]; decide) (by rw [y_10]; rfl) (by decide) ?_
      exact law_c10 hc hX hbl ht hL hi hw hl kk
    by_cases y_11 : sel = 11
    · refine lv_tableIn (off := 403) (tgt := 435) hx hb dL_law_32 (by rw [y_11]; decide) (by rw [y_11]; decide) (by rw [y_11]; rfl) (by decide) ?_
      exact law_c11 hc hX hbl ht hL hi hw hl kk
    by_cases y_12 : sel = 12
    · refine lv_tableIn (off := 436) (tgt := 468) hx hb dL_law_32 (by rw [y_12]; decide) (by rw [y_12]; decide) (by rw [y_12]; rfl) (by decide) ?_
      exact law_c12 hc hX hbl ht hL hi hw hl kk
    by_cases y_13 : sel = 13
    · refine lv_tableIn (off := 489) (tgt := 521) hx hb dL_law_32 (by rw [y_13]; decide) (by rw [y_13]; decide) (by rw [y_13]; rfl) (by decide) ?_
      exact law_c13 hc hX hbl ht hL hi hw hl kk
    by_cases y_14 : sel = 14
    · refine lv_tableIn (off := 502) (tgt := 534) hx hb dL_law_32 (by rw [y_14]; decide) (by rw [y_14]; decide) (by rw [y_14]; rfl) (by decide) ?_
      exact law_c14 hc hX hbl ht hL hi hw hl kk
    by_cases y_15 : sel = 15
    · refine lv_tableIn (off := 525) (tgt := 557) hx hb dL_law_32 (by rw [y_15]; decide) (by rw [y_15]; decide) (by rw [y_15]; rfl) (by decide) ?_
      exact law_c15 hc hX hbl ht hL hi hw hl kk
    by_cases y_16 : sel = 16
    · refine lv_tableIn (off := 548) (tgt := 580) hx hb dL_law_32 (by rw [y_16]; decide) (by rw [y_16]; decide) (by rw [y_16]; rfl) (by decide) ?_
      exact law_c16 hc hX hbl ht hL hi hw hl kk
    by_cases y_17 : sel = 17
    · refine lv_tableIn (off := 581) (tgt := 613) hx hb dL_law_32 (by rw [y_17]; decide) (by rw [y_17]; decide) (by rw [y_17]; rfl) (by decide) ?_
      exact law_c17 hc hX hbl ht hL hi hw hl kk
    by_cases y_18 : sel = 18
    · refine lv_tableIn (off := 614) (tgt := 646) hx hb dL_law_32 (by rw [y_18]; decide) (by rw [y_18]; decide) (by rw [y_18]; rfl) (by decide) ?_
      exact law_c18 hc hX hbl ht hL hi hw hl kk
    by_cases y_19 : sel = 19
    · refine lv_tableIn (off := 627) (tgt := 659) hx hb dL_law_32 (by rw [y_19]; decide) (by rw [y_19]; decide) (by rw [y_19]; rfl) (by decide) ?_
      exact law_c19 hc hX hbl ht hL hi hw hl kk
    by_cases y_20 : sel = 20
    · refine lv_tableIn (off := 640) (tgt := 672) hx hb dL_law_32 (by rw [y_20]; decide) (by rw [y_20]; decide) (by rw [y_20]; rfl) (by decide) ?_
      exact law_c20 hc hX hbl ht hL hi hw hl kk
    by_cases y_21 : sel = 21
    · refine lv_tableIn (off := 653) (tgt := 685) hx hb dL_law_32 (by rw [y_21]; decide) (by rw [y_21]; decide) (by rw [y_21]; rfl) (by decide) ?_
      exact law_c21 hc hX hbl ht hL hi hw hl kk
    by_cases y_22 : sel = 22
    · refine lv_tableIn (off := 716) (tgt := 748) hx hb dL_law_32 (by rw [y_22]; decide) (by rw [y_22]; decide) (by rw [y_22]; rfl) (by decide) ?_
      exact law_c22 hc hX hbl ht hL hi hw hl kk
    by_cases y_23 : sel = 23
    · refine lv_tableIn (off := 769) (tgt := 801) hx hb dL_law_32 (by rw [y_23]; decide) (by rw [y_23]; decide) (by rw [y_23]; rfl) (by decide) ?_
      exact law_c23 hc hX hbl ht hL hi hw hl kk
    by_cases y_24 : sel = 24
    · refine lv_tableIn (off := 782) (tgt := 814) hx hb dL_law_32 (by rw [y_24]; decide) (by rw [y_24]; decide) (by rw [y_24]; rfl) (by decide) ?_
      exact law_c24 hc hX hbl ht hL hi hw hl kk
    by_cases y_25 : sel = 25
    · refine lv_tableIn (off := 795) (tgt := 827) hx hb dL_law_32 (by rw [y_25]; decide) (by rw [y_25]; decide) (by rw [y_25]; rfl) (by decide) ?_
      exact law_c25 hc hX hbl ht hL hi hw hl kk
    by_cases y_26 : sel = 26
    · refine lv_tableIn (off := 844) (tgt := 876) hx hb dL_law_32 (by rw [y_26]; decide) (by rw [y_26]; decide) (by rw [y_26]; rfl) (by decide) ?_
      exact law_c26 hc hX hbl ht hL hi hw hl kk
    by_cases y_27 : sel = 27
    · refine lv_tableIn (off := 893) (tgt := 925) hx hb dL_law_32 (by rw [y_27]; decide) (by rw [y_27]; decide) (by rw [y_27]; rfl) (by decide) ?_
      exact law_c27 hc hX hbl ht hL hi hw hl kk
    by_cases y_28 : sel = 28
    · refine lv_tableIn (off := 947) (tgt := 979) hx hb dL_law_32 (by rw [y_28]; decide) (by rw [y_28]; decide) (by rw [y_28]; rfl) (by decide) ?_
      exact law_c28 hc hX hbl ht hL hi hw hl kk
    by_cases y_29 : sel = 29
    · refine lv_tableIn (off := 970) (tgt := 1002) hx hb dL_law_32 (by rw [y_29]; decide) (by rw [y_29]; decide) (by rw [y_29]; rfl) (by decide) ?_
      exact law_c29 hc hX hbl ht hL hi hw hl kk
    by_cases y_30 : sel = 30
    · refine lv_tableIn (off := 993) (tgt := 1025) hx hb dL_law_32 (by rw [y_30]; decide) (by rw [y_30]; decide) (by rw [y_30]; rfl) (by decide) ?_
      exact law_c30 hc hX hbl ht hL hi hw hl kk
    by_cases y_31 : sel = 31
    · refine lv_tableIn (off := 1016) (tgt := 1048) hx hb dL_law_32 (by rw [y_31]; decide) (by rw [y_31]; decide) (by rw [y_31]; rfl) (by decide) ?_
      exact law_c31 hc hX hbl ht hL hi hw hl kk
    have z_0 := lv_neT (a := 0) y_0 (by decide)
    have z_1 := lv_neT (a := 1) y_1 (by decide)
    have z_2 := lv_neT (a := 2) y_2 (by decide)
    have z_3 := lv_neT (a := 3) y_3 (by decide)
    have z_4 := lv_neT (a := 4) y_4 (by decide)
    have z_5 := lv_neT (a := 5) y_5 (by decide)
    have z_6 := lv_neT (a := 6) y_6 (by decide)
    have z_7 := lv_neT (a := 7) y_7 (by decide)
    have z_8 := lv_neT (a := 8) y_8 (by decide)
    have z_9 := lv_neT (a := 9) y_9 (by decide)
    have z_10 := lv_neT (a := 10) y_10 (by decide)
    have z_11 := lv_neT (a := 11) y_11 (by decide)
    have z_12 := lv_neT (a := 12) y_12 (by decide)
    have z_13 := lv_neT (a := 13) y_13 (by decide)
    have z_14 := lv_neT (a := 14) y_14 (by decide)
    have z_15 := lv_neT (a := 15) y_15 (by decide)
    have z_16 := lv_neT (a := 16) y_16 (by decide)
    have z_17 := lv_neT (a := 17) y_17 (by decide)
    have z_18 := lv_neT (a := 18) y_18 (by decide)
    have z_19 := lv_neT (a := 19) y_19 (by decide)
    have z_20 := lv_neT (a := 20) y_20 (by decide)
    have z_21 := lv_neT (a := 21) y_21 (by decide)
    have z_22 := lv_neT (a := 22) y_22 (by decide)
    have z_23 := lv_neT (a := 23) y_23 (by decide)
    have z_24 := lv_neT (a := 24) y_24 (by decide)
    have z_25 := lv_neT (a := 25) y_25 (by decide)
    have z_26 := lv_neT (a := 26) y_26 (by decide)
    have z_27 := lv_neT (a := 27) y_27 (by decide)
    have z_28 := lv_neT (a := 28) y_28 (by decide)
    have z_29 := lv_neT (a := 29) y_29 (by decide)
    have z_30 := lv_neT (a := 30) y_30 (by decide)
    have z_31 := lv_neT (a := 31) y_31 (by decide)
    refine lv_tableOut (tgt := 1071) hx hb dL_law_32 (by omega) (by decide) ?_
    exact kk c r H locs (hi.up (by omega)) hw
end GLaw
