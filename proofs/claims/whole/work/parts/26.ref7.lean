section P26
theorem g_M.ex {U : Type} {l : Launch} {D : va_G} {E : Nat → ClassId} {T : Nat → Nat} {y : MethodName} {wy : List Cond} {fr lo : Nat} {av : List Value} {ws : va_W} {w1 : U → va_W} {o : Option Value} (u : U) (h : g_M l D E T y wy fr lo av ws (w1 u) o) : g_ME l D E T y wy fr lo av ws w1 o := by
  intro sz p e ha hc hk s m args below hf happ hP hK
  obtain ⟨n, oc, h1, h2, h3, ⟨⟨h4, h5⟩, h6⟩, h7⟩ := h sz p e ha hc hk s m args below hf happ hP hK
  exact ⟨n, oc, h1, h2, h3, ⟨⟨h4, u, h5⟩, h6⟩, h7⟩
theorem ne_amA (nw : Nat) (x : Nat → Int32) (S : TS) {k : Nat} (h : k < 4) : amP (sD S) (aS nw x S) (sF S) 4 k = neA nw x S k := by
  unfold amP neA
  cases q : (sD S).testBit k with
  | true => rw [if_neg (fun z => Bool.noConfusion z.2), if_pos rfl]
  | false => rw [if_pos ⟨h, rfl⟩, if_neg (by decide)]
theorem ne_mg {B : Nat} {S : TS} (h : OkS B S) (nw : Nat) (x : Nat → Int32) {k : Nat} (hk : k < 4) : g_mg 255 (neA nw x S k) := by
  unfold neA
  split
  · exact g_mgW (h.f k hk) (by decide)
  · exact g_mgW (aS_mg h nw x k hk).1 (by decide)
theorem la_pg (S : TS) {k : Nat} (h : k ≤ 4) : pgF S (1 + k) = laF S k := by
  rcases (show k = 0 ∨ k = 1 ∨ k = 2 ∨ k = 3 ∨ k = 4 by omega) with rfl | rfl | rfl | rfl | rfl <;> rfl
/-- the wheel whose loss costs most, as the reference looks for it -/
def wrA (nw nf : Nat) (fl x : Nat → Int32) (S : TS) : Nat → Int32 × Int32
  | 0 => (-9, 0)
  | i + 1 => if (sD S).testBit i = false ∧ ((wrA nw nf fl x S i).1 = -9 ∨ (wrA nw nf fl x S i).2 < clR nw nf fl x (skS S i) 20) then (nI i, clR nw nf fl x (skS S i) 20) else wrA nw nf fl x S i
theorem so1y {a d : Bool} (hd : b2i d = 1) (h : b2i a = 1) : a = d := by
  cases a <;> cases d <;> simp_all [b2i]
theorem so1n {a d : Bool} (hd : b2i d = 1) (h : ¬ b2i a = 1) : ¬ a = d := by
  cases a <;> cases d <;> simp_all [b2i]
theorem so0y {a d : Bool} (hd : ¬ b2i d = 1) (h : b2i a = 0) : a = d := by
  cases a <;> cases d <;> simp_all [b2i]
theorem so0n {a d : Bool} (hd : ¬ b2i d = 1) (h : ¬ b2i a = 0) : ¬ a = d := by
  cases a <;> cases d <;> simp_all [b2i]
theorem wc_T {a b : Bool} (h : (!a && b) = true) : a = false ∧ b = true := by
  rw [Bool.and_eq_true] at h
  exact ⟨by simpa using h.1, h.2⟩
theorem wc_F {a b : Bool} (h : (!a && b) = false) : ¬ (a = false ∧ b = true) := by
  rintro ⟨rfl, rfl⟩
  exact absurd h (by decide)
theorem may_0 {a b c : Bool} (h : (!a && b) = false) : b2i (!a && (b && c)) = 0 := by
  rw [← Bool.and_assoc, h]
  rfl
theorem may_1 {a b c : Bool} (h : (!a && b) = true) (hc : c = true) : b2i (!a && (b && c)) = 1 := by
  rw [← Bool.and_assoc, h, hc]
  rfl
theorem may_2 {a b c : Bool} (h : (!a && b) = true) (hc : c = false) : b2i (!a && (b && c)) = 0 := by
  rw [← Bool.and_assoc, h, hc]
  rfl
theorem m_X6_tickMany_x {l : Launch} {D : va_G} {E : Nat → ClassId} {T : Nat → Nat} (o : Nat) (xa : Nat) (fa : Nat) (wa : Nat) (la : Nat) (ta : Nat) (ma : Nat) (sa : Nat) (pp : Nat) (ff : Nat) (nw : Nat) (nf : Nat) (B : Nat) (u0 : Value) (u1 : Value) (u2 : Value) (u7 : Value) (u8 : Value) (u9 : Value) (u10 : Value) (u11 : Value) (u12 : Value) (u13 : Value) (u14 : Value) (u15 : Value) (u16 : Value) (u17 : Value) (u18 : Value) (u19 : Value) (u20 : Value) (u21 : Value) (u22 : Value) (u23 : Value) (u24 : Value) (u25 : Value) (u26 : Value) (u34 : Value) (fl : Nat → Int32) (S : TS) (K : RJ) (n : Nat) (hok : OkS B S) (hB : B + n < 2 ^ 31) (hnw : nw ≤ 6) (hnf : nf ≤ 6) : g_ME l D E T yX6_tickMany wsX6_tickMany 6 149 [.ref o, .ref pp, .ref ff, .int (nI n)] [(o, .inr (6, [u0, u1, u2, .ref xa, .int (nI nw), .int (nI nf), .ref fa, u7, u8, u9, u10, u11, u12, u13, u14, u15, u16, u17, u18, u19, u20, u21, u22, u23, u24, u25, u26, .ref wa, .ref la, .ref ta, .int (rS K), .int (rN K), .float (rH K), .ref ma, u34, .ref sa])), (xa, .inl (E 0, 12, .inl (g_tv 0))), (fa, .inl (E 0, 18, .inl fl)), (wa, .inl (E 0, 3, .inl (rW K))), (la, .inl (E 1, 4, .inr (.inr (.inl (rP K))))), (ta, .inl (E 1, 4, .inr (.inr (.inl (rT K))))), (ma, .inl (E 1, 3, .inr (.inr (.inl (rM K))))), (sa, .inl (E 0, 9, .inl (g_tv 1))), (pp, .inl (E 0, 29, .inl (pgF S))), (ff, .inl (E 1, 5, .inr (.inr (.inl (fl5 S)))))] (fun (K1 : RJ) => [(o, .inr (6, [u0, u1, u2, .ref xa, .int (nI nw), .int (nI nf), .ref fa, u7, u8, u9, u10, u11, u12, u13, u14, u15, u16, u17, u18, u19, u20, u21, u22, u23, u24, u25, u26, .ref wa, .ref la, .ref ta, .int (rS K1), .int (rN K1), .float (rH K1), .ref ma, u34, .ref sa])), (xa, .inl (E 0, 12, .inl (g_tv 0))), (fa, .inl (E 0, 18, .inl fl)), (wa, .inl (E 0, 3, .inl (rW K1))), (la, .inl (E 1, 4, .inr (.inr (.inl (rP K1))))), (ta, .inl (E 1, 4, .inr (.inr (.inl (rT K1))))), (ma, .inl (E 1, 3, .inr (.inr (.inl (rM K1))))), (sa, .inl (E 0, 9, .inl (g_tv 1))), (pp, .inl (E 0, 29, .inl (pgF (tkN nw nf fl (x3F 0 0 0) S n)))), (ff, .inl (E 1, 5, .inr (.inr (.inl (fl5 (tkN nw nf fl (x3F 0 0 0) S n))))))]) none := g_M.ex (u := rjN nw nf fl (x3F 0 0 0) S K n) (m_X6_tickMany o xa fa wa la ta ma sa pp ff nw nf B u0 u1 u2 u7 u8 u9 u10 u11 u12 u13 u14 u15 u16 u17 u18 u19 u20 u21 u22 u23 u24 u25 u26 u34 fl S K n hok hB hnw hnf)

theorem m_X6_badOnes_x {l : Launch} {D : va_G} {E : Nat → ClassId} {T : Nat → Nat} (o : Nat) (xa : Nat) (fa : Nat) (wa : Nat) (la : Nat) (ta : Nat) (ma : Nat) (sa : Nat) (nw : Nat) (nf : Nat) (ua : Nat) (ya : Nat) (B : Nat) (u0 : Value) (u1 : Value) (u2 : Value) (u7 : Value) (u8 : Value) (u9 : Value) (u10 : Value) (u11 : Value) (u12 : Value) (u15 : Value) (u16 : Value) (u17 : Value) (u18 : Value) (u19 : Value) (u20 : Value) (u21 : Value) (u22 : Value) (u23 : Value) (u24 : Value) (u25 : Value) (u26 : Value) (u34 : Value) (fl : Nat → Int32) (S : TS) (K : RJ) (hok : OkS B S) (hB : B + 20 < 2 ^ 31) (hnw : nw ≤ 6) (hnf : nf ≤ 6) : g_ME l D E T yX6_badOnes wsX6_badOnes 7 173 [.ref o] [(o, .inr (6, [u0, u1, u2, .ref xa, .int (nI nw), .int (nI nf), .ref fa, u7, u8, u9, u10, u11, u12, .ref ua, .ref ya, u15, u16, u17, u18, u19, u20, u21, u22, u23, u24, u25, u26, .ref wa, .ref la, .ref ta, .int (rS K), .int (rN K), .float (rH K), .ref ma, u34, .ref sa])), (xa, .inl (E 0, 12, .inl (g_tv 0))), (fa, .inl (E 0, 18, .inl fl)), (wa, .inl (E 0, 3, .inl (rW K))), (la, .inl (E 1, 4, .inr (.inr (.inl (rP K))))), (ta, .inl (E 1, 4, .inr (.inr (.inl (rT K))))), (ma, .inl (E 1, 3, .inr (.inr (.inl (rM K))))), (sa, .inl (E 0, 9, .inl (g_tv 1))), (ua, .inl (E 0, 29, .inl (pgF S))), (ya, .inl (E 1, 5, .inr (.inr (.inl (fl5 S)))))] (fun (K1 : RJ) => [(o, .inr (6, [u0, u1, u2, .ref xa, .int (nI nw), .int (nI nf), .ref fa, u7, u8, u9, u10, u11, u12, .ref ua, .ref ya, u15, u16, u17, u18, u19, u20, u21, u22, u23, u24, u25, u26, .ref wa, .ref la, .ref ta, .int (rS K1), .int (rN K1), .float (rH K1), .ref ma, u34, .ref sa])), (xa, .inl (E 0, 12, .inl (g_tv 0))), (fa, .inl (E 0, 18, .inl fl)), (wa, .inl (E 0, 3, .inl (rW K1))), (la, .inl (E 1, 4, .inr (.inr (.inl (rP K1))))), (ta, .inl (E 1, 4, .inr (.inr (.inl (rT K1))))), (ma, .inl (E 1, 3, .inr (.inr (.inl (rM K1))))), (sa, .inl (E 0, 9, .inl (g_tv 1))), (ua, .inl (E 0, 29, .inl (pgF (tkN nw nf fl (x3F 0 0 0) S 20)))), (ya, .inl (E 1, 5, .inr (.inr (.inl (fl5 (tkN nw nf fl (x3F 0 0 0) S 20))))))]) (some (.int (clR nw nf fl (x3F 0 0 0) S 20))) := g_M.ex (u := rjN nw nf fl (x3F 0 0 0) S K 20) (m_X6_badOnes o xa fa wa la ta ma sa nw nf ua ya B u0 u1 u2 u7 u8 u9 u10 u11 u12 u15 u16 u17 u18 u19 u20 u21 u22 u23 u24 u25 u26 u34 fl S K hok hB hnw hnf)

theorem m_X6_badBy_x {l : Launch} {D : va_G} {E : Nat → ClassId} {T : Nat → Nat} (o : Nat) (xa : Nat) (fa : Nat) (wa : Nat) (la : Nat) (ta : Nat) (ma : Nat) (sa : Nat) (nw : Nat) (nf : Nat) (pa : Nat) (va : Nat) (ua : Nat) (ya : Nat) (B : Nat) (u0 : Value) (u1 : Value) (u2 : Value) (u7 : Value) (u8 : Value) (u9 : Value) (u10 : Value) (u15 : Value) (u16 : Value) (u17 : Value) (u18 : Value) (u19 : Value) (u20 : Value) (u21 : Value) (u22 : Value) (u23 : Value) (u24 : Value) (u25 : Value) (u26 : Value) (u34 : Value) (fl : Nat → Int32) (S : TS) (U : TS) (K : RJ) (d : Nat) (hok : OkS B S) (hB : B + 20 < 2 ^ 31) (hnw : nw ≤ 6) (hnf : nf ≤ 6) (hd : d < 16) : g_ME l D E T yX6_badBy wsX6_badBy 8 194 [.ref o, .int (nI d)] [(o, .inr (6, [u0, u1, u2, .ref xa, .int (nI nw), .int (nI nf), .ref fa, u7, u8, u9, u10, .ref pa, .ref va, .ref ua, .ref ya, u15, u16, u17, u18, u19, u20, u21, u22, u23, u24, u25, u26, .ref wa, .ref la, .ref ta, .int (rS K), .int (rN K), .float (rH K), .ref ma, u34, .ref sa])), (xa, .inl (E 0, 12, .inl (g_tv 0))), (fa, .inl (E 0, 18, .inl fl)), (wa, .inl (E 0, 3, .inl (rW K))), (la, .inl (E 1, 4, .inr (.inr (.inl (rP K))))), (ta, .inl (E 1, 4, .inr (.inr (.inl (rT K))))), (ma, .inl (E 1, 3, .inr (.inr (.inl (rM K))))), (sa, .inl (E 0, 9, .inl (g_tv 1))), (pa, .inl (E 0, 29, .inl (pgF S))), (va, .inl (E 1, 5, .inr (.inr (.inl (fl5 S))))), (ua, .inl (E 0, 29, .inl (pgF U))), (ya, .inl (E 1, 5, .inr (.inr (.inl (fl5 U)))))] (fun (K1 : RJ) => [(o, .inr (6, [u0, u1, u2, .ref xa, .int (nI nw), .int (nI nf), .ref fa, u7, u8, u9, u10, .ref pa, .ref va, .ref ua, .ref ya, u15, u16, u17, u18, u19, u20, u21, u22, u23, u24, u25, u26, .ref wa, .ref la, .ref ta, .int (rS K1), .int (rN K1), .float (rH K1), .ref ma, u34, .ref sa])), (xa, .inl (E 0, 12, .inl (g_tv 0))), (fa, .inl (E 0, 18, .inl fl)), (wa, .inl (E 0, 3, .inl (rW K1))), (la, .inl (E 1, 4, .inr (.inr (.inl (rP K1))))), (ta, .inl (E 1, 4, .inr (.inr (.inl (rT K1))))), (ma, .inl (E 1, 3, .inr (.inr (.inl (rM K1))))), (sa, .inl (E 0, 9, .inl (g_tv 1))), (pa, .inl (E 0, 29, .inl (pgF S))), (va, .inl (E 1, 5, .inr (.inr (.inl (fl5 S))))), (ua, .inl (E 0, 29, .inl (pgF (tkN nw nf fl (x3F 0 0 0) (dvS S d) 20)))), (ya, .inl (E 1, 5, .inr (.inr (.inl (fl5 (tkN nw nf fl (x3F 0 0 0) (dvS S d) 20))))))]) (some (.int (clR nw nf fl (x3F 0 0 0) (dvS S d) 20))) := g_M.ex (u := rjN nw nf fl (x3F 0 0 0) (dvS S d) K 20) (m_X6_badBy o xa fa wa la ta ma sa nw nf pa va ua ya B u0 u1 u2 u7 u8 u9 u10 u15 u16 u17 u18 u19 u20 u21 u22 u23 u24 u25 u26 u34 fl S U K d hok hB hnw hnf hd)

theorem dX6_plan_0 : decode cX6_plan 0 = .ok (.aload_n 0, 1) := by decide +kernel
theorem dX6_plan_1 : decode cX6_plan 1 = .ok (.iconst 0, 1) := by decide +kernel
theorem dX6_plan_2 : decode cX6_plan 2 = .ok (.putfield 88, 3) := by decide +kernel
theorem dX6_plan_5 : decode cX6_plan 5 = .ok (.iload_n 1, 1) := by decide +kernel
theorem dX6_plan_6 : decode cX6_plan 6 = .ok (.i2l, 1) := by decide +kernel
theorem dX6_plan_7 : decode cX6_plan 7 = .ok (.lconst 0, 1) := by decide +kernel
theorem dX6_plan_8 : decode cX6_plan 8 = .ok (.ldc2_w 92, 3) := by decide +kernel
theorem dX6_plan_11 : decode cX6_plan 11 = .ok (.invokestatic 94, 3) := by decide +kernel
theorem dX6_plan_14 : decode cX6_plan 14 = .ok (.ifCond .ne 6, 3) := by decide +kernel
theorem dX6_plan_17 : decode cX6_plan 17 = .ok (.bipush (-2), 2) := by decide +kernel
theorem dX6_plan_19 : decode cX6_plan 19 = .ok (.ireturn, 1) := by decide +kernel
set_option maxRecDepth 20000 in
theorem ggX6_plan_X6_in : GoodIn wsX6_plan wsX6_in := goodIn_r _ [10] rfl (by decide +kernel)
set_option maxRecDepth 20000 in
theorem gX6_plan_X6_in : GoodIn wsX6_plan (va_wsS RX6 94 yX6_in wsX6_in) := goodIn_app (goodIn_of _ (by decide +kernel)) ggX6_plan_X6_in
theorem inX6_plan_X6 : ∀ w ∈ u_ws RX6 TX6 36, w ∈ wsX6_plan := fun w h => List.mem_cons_of_mem _ (List.mem_append_right _ h)
set_option maxRecDepth 100000 in
set_option maxHeartbeats 4000000 in
theorem m_X6_plan_out {l : Launch} {D : va_G} {E : Nat → ClassId} {T : Nat → Nat} (o : Nat) (u0 : Value) (u1 : Value) (u2 : Value) (u3 : Value) (u4 : Value) (u5 : Value) (u6 : Value) (u7 : Value) (u8 : Value) (u9 : Value) (u10 : Value) (u11 : Value) (u12 : Value) (u13 : Value) (u14 : Value) (u15 : Value) (u16 : Value) (u17 : Value) (u18 : Value) (u19 : Value) (u20 : Value) (u21 : Value) (u22 : Value) (u23 : Value) (u24 : Value) (u25 : Value) (u26 : Value) (u27 : Value) (u28 : Value) (u29 : Value) (u30 : Value) (u31 : Value) (u32 : Value) (u33 : Value) (u34 : Value) (u35 : Value) (v : Int32) (ho : outB v 0 3 = true) : g_M l D E T yX6_plan wsX6_plan 1 25 [.ref o, .int v] [(o, .inr (6, [u0, u1, u2, u3, u4, u5, u6, u7, u8, u9, u10, u11, u12, u13, u14, u15, u16, u17, u18, u19, u20, u21, u22, u23, u24, u25, u26, u27, u28, u29, u30, u31, u32, u33, u34, u35]))] [(o, .inr (6, [.int 0, u1, u2, u3, u4, u5, u6, u7, u8, u9, u10, u11, u12, u13, u14, u15, u16, u17, u18, u19, u20, u21, u22, u23, u24, u25, u26, u27, u28, u29, u30, u31, u32, u33, u34, u35]))] (some (.int (-2))) := by
  refine g_M.of (cc := cX6_plan) (nL := 2) (ret := (some .int)) (own := RX6) (lv := [(0, .ref o), (1, .int v)]) (by decide) rfl rfl (Nat.le_of_ble_eq_true rfl) rfl ?_
  intro p e R s m args below meth c A Q H locs ls hR hQ hc hr hw hl
  have hx := hc.1
  have hb := hc.2.1
  have hts := hc.2.2.2.1
  have hown := hc.2.2.2.2.1
  refine lv_aload_n hx hb dX6_plan_0 rfl (lv_at hl 0 rfl) ?_
  refine lv_iconst (v := 0) hx hb dX6_plan_1 (by decide) ?_
  refine g_put (TT := TX6) hc hw inX6_plan_X6 tyX6 tyX6_ok nmX6 0 0 1 rfl rfl (by decide) rfl rfl rfl rfl (Nat.le_of_ble_eq_true rfl) dX6_plan_2 (fun H locs hw => ?_)
  have hw : g_W D A s [(o, .inr (6, [.int 0, u1, u2, u3, u4, u5, u6, u7, u8, u9, u10, u11, u12, u13, u14, u15, u16, u17, u18, u19, u20, u21, u22, u23, u24, u25, u26, u27, u28, u29, u30, u31, u32, u33, u34, u35]))] H locs := hw
  refine lv_iload_n hx hb dX6_plan_5 rfl (lv_at hl 1 rfl) ?_
  refine lv_i2l hx hb dX6_plan_6 rfl ?_
  refine lv_lconst (v := 0) hx hb dX6_plan_7 (by decide) ?_
  refine lv_ldc2 (v := 3) hx hb hown (hts _ (List.mem_of_getElem? (i := 2) rfl)) dX6_plan_8 ?_
  refine g_cS (As := [.long v.toInt64, .long 0, .long 3]) (n := 3) (rest := []) (wc := []) (w1 := []) (bytes := cX6_in) (maxL := 6) (ret := (some .boolean)) hc hw hl.1 (m_X6_in (l := l) (D := D) (E := E) (T := T) v.toInt64 0 3) gX6_plan_X6_in rfl (by decide +kernel) (by rw [hR]; exact ⟨Nat.le_of_ble_eq_true rfl, Nat.le_of_ble_eq_true rfl⟩) [] (by decide) rfl [] rfl rfl rfl rfl (Nat.le_of_ble_eq_true rfl) dX6_plan_11 ⟨Nat.zero_le _, Nat.zero_le _⟩ (fun H locs hw => ?_)
  have hw : g_W D A s [(o, .inr (6, [.int 0, u1, u2, u3, u4, u5, u6, u7, u8, u9, u10, u11, u12, u13, u14, u15, u16, u17, u18, u19, u20, u21, u22, u23, u24, u25, u26, u27, u28, u29, u30, u31, u32, u33, u34, u35]))] H locs := hw
  refine W.eq (congrArg (fun z => F0 m 14 ls (.int z :: [])) (show (b2i (inL v.toInt64 0 3) : Int32) = 0 from (congrArg b2i (in_o (a := 0) (b := 3) ho (by decide) (by decide))))) ?_
  refine lv_if_ne (tgt := 20) hx hb dX6_plan_14 (by decide) (fun c_14 => absurd c_14 (by decide)) (fun c_14 => ?_)
  refine lv_bipush (v := (-2)) hx hb dX6_plan_17 (by decide) ?_
  exact g_iret hQ hc hw hr rfl rfl dX6_plan_19

theorem dX6_plan_20 : decode cX6_plan 20 = .ok (.aload_n 0, 1) := by decide +kernel
theorem dX6_plan_21 : decode cX6_plan 21 = .ok (.getfield 25, 3) := by decide +kernel
theorem dX6_plan_24 : decode cX6_plan 24 = .ok (.iconst 1, 1) := by decide +kernel
theorem dX6_plan_25 : decode cX6_plan 25 = .ok (.iaload, 1) := by decide +kernel
theorem dX6_plan_26 : decode cX6_plan 26 = .ok (.iconst 1, 1) := by decide +kernel
theorem dX6_plan_27 : decode cX6_plan 27 = .ok (.if_icmp .ne 6, 3) := by decide +kernel
theorem dX6_plan_30 : decode cX6_plan 30 = .ok (.bipush (-3), 2) := by decide +kernel
theorem dX6_plan_32 : decode cX6_plan 32 = .ok (.ireturn, 1) := by decide +kernel
set_option maxRecDepth 100000 in
set_option maxHeartbeats 4000000 in
theorem m_X6_plan_safe {l : Launch} {D : va_G} {E : Nat → ClassId} {T : Nat → Nat} (o : Nat) (pa : Nat) (k : Nat) (u0 : Value) (u1 : Value) (u2 : Value) (u3 : Value) (u4 : Value) (u5 : Value) (u6 : Value) (u7 : Value) (u8 : Value) (u9 : Value) (u10 : Value) (u12 : Value) (u13 : Value) (u14 : Value) (u15 : Value) (u16 : Value) (u17 : Value) (u18 : Value) (u19 : Value) (u20 : Value) (u21 : Value) (u22 : Value) (u23 : Value) (u24 : Value) (u25 : Value) (u26 : Value) (u27 : Value) (u28 : Value) (u29 : Value) (u30 : Value) (u31 : Value) (u32 : Value) (u33 : Value) (u34 : Value) (u35 : Value) (S : TS) (hk : k ≤ 3) (hm : sM S = 1) : g_M l D E T yX6_plan wsX6_plan 1 25 [.ref o, .int (nI k)] [(o, .inr (6, [u0, u1, u2, u3, u4, u5, u6, u7, u8, u9, u10, .ref pa, u12, u13, u14, u15, u16, u17, u18, u19, u20, u21, u22, u23, u24, u25, u26, u27, u28, u29, u30, u31, u32, u33, u34, u35])), (pa, .inl (E 0, 29, .inl (pgF S)))] [(o, .inr (6, [.int 0, u1, u2, u3, u4, u5, u6, u7, u8, u9, u10, .ref pa, u12, u13, u14, u15, u16, u17, u18, u19, u20, u21, u22, u23, u24, u25, u26, u27, u28, u29, u30, u31, u32, u33, u34, u35])), (pa, .inl (E 0, 29, .inl (pgF S)))] (some (.int (-3))) := by
  refine g_M.of (cc := cX6_plan) (nL := 2) (ret := (some .int)) (own := RX6) (lv := [(0, .ref o), (1, .int (nI k))]) (by decide) rfl rfl (Nat.le_of_ble_eq_true rfl) rfl ?_
  intro p e R s m args below meth c A Q H locs ls hR hQ hc hr hw hl
  have hx := hc.1
  have hb := hc.2.1
  have hts := hc.2.2.2.1
  have hown := hc.2.2.2.2.1
  refine lv_aload_n hx hb dX6_plan_0 rfl (lv_at hl 0 rfl) ?_
  refine lv_iconst (v := 0) hx hb dX6_plan_1 (by decide) ?_
  refine g_put (TT := TX6) hc hw inX6_plan_X6 tyX6 tyX6_ok nmX6 0 0 1 rfl rfl (by decide) rfl rfl rfl rfl (Nat.le_of_ble_eq_true rfl) dX6_plan_2 (fun H locs hw => ?_)
  have hw : g_W D A s [(o, .inr (6, [.int 0, u1, u2, u3, u4, u5, u6, u7, u8, u9, u10, .ref pa, u12, u13, u14, u15, u16, u17, u18, u19, u20, u21, u22, u23, u24, u25, u26, u27, u28, u29, u30, u31, u32, u33, u34, u35])), (pa, .inl (E 0, 29, .inl (pgF S)))] H locs := hw
  refine lv_iload_n hx hb dX6_plan_5 rfl (lv_at hl 1 rfl) ?_
  refine lv_i2l hx hb dX6_plan_6 rfl ?_
  refine lv_lconst (v := 0) hx hb dX6_plan_7 (by decide) ?_
  refine lv_ldc2 (v := 3) hx hb hown (hts _ (List.mem_of_getElem? (i := 2) rfl)) dX6_plan_8 ?_
  refine g_cS (As := [.long ((nI k).toInt64), .long 0, .long 3]) (n := 3) (rest := []) (wc := []) (w1 := []) (bytes := cX6_in) (maxL := 6) (ret := (some .boolean)) hc hw hl.1 (m_X6_in (l := l) (D := D) (E := E) (T := T) ((nI k).toInt64) 0 3) gX6_plan_X6_in rfl (by decide +kernel) (by rw [hR]; exact ⟨Nat.le_of_ble_eq_true rfl, Nat.le_of_ble_eq_true rfl⟩) [] (by decide) rfl [] rfl rfl rfl rfl (Nat.le_of_ble_eq_true rfl) dX6_plan_11 ⟨Nat.zero_le _, Nat.zero_le _⟩ (fun H locs hw => ?_)
  have hw : g_W D A s [(o, .inr (6, [.int 0, u1, u2, u3, u4, u5, u6, u7, u8, u9, u10, .ref pa, u12, u13, u14, u15, u16, u17, u18, u19, u20, u21, u22, u23, u24, u25, u26, u27, u28, u29, u30, u31, u32, u33, u34, u35])), (pa, .inl (E 0, 29, .inl (pgF S)))] H locs := hw
  refine W.eq (congrArg (fun z => F0 m 14 ls (.int z :: [])) (show (b2i (inL ((nI k).toInt64) 0 3) : Int32) = 1 from (congrArg b2i (in_i (out_nf (n := k) (a := 0) (b := 3) (by omega) hk (by decide)) (by decide) (by decide))))) ?_
  refine lv_if_ne (tgt := 20) hx hb dX6_plan_14 (by decide) (fun c_14 => ?_) (fun c_14 => absurd c_14 (by decide))
  refine lv_aload_n hx hb dX6_plan_20 rfl (lv_at hl 0 rfl) ?_
  refine g_get (TT := TX6) hc hw inX6_plan_X6 0 11 3 rfl rfl (by decide) rfl rfl dX6_plan_21 ?_
  refine lv_iconst (v := 1) hx hb dX6_plan_24 (by decide) ?_
  refine g_ild hc hw 1 1 rfl rfl (by omega) (by decide) dX6_plan_25 ?_
  refine W.eq (congrArg (fun z => F0 m 26 ls (.int z :: [])) (show ((pgF S) 1 : Int32) = sM S from rfl)) ?_
  refine lv_iconst (v := 1) hx hb dX6_plan_26 (by decide) ?_
  refine lv_icmp_ne (tgt := 33) hx hb dX6_plan_27 (by decide) (fun c_27 => absurd hm c_27) (fun c_27 => ?_)
  refine lv_bipush (v := (-3)) hx hb dX6_plan_30 (by decide) ?_
  exact g_iret hQ hc hw hr rfl rfl dX6_plan_32

theorem dX6_plan_33 : decode cX6_plan 33 = .ok (.aload_n 0, 1) := by decide +kernel
theorem dX6_plan_34 : decode cX6_plan 34 = .ok (.invokevirtual 245, 3) := by decide +kernel
theorem dX6_plan_37 : decode cX6_plan 37 = .ok (.iload_n 1, 1) := by decide +kernel
theorem dX6_plan_38 : decode cX6_plan 38 = .ok (.ifCond .ne 10, 3) := by decide +kernel
theorem dX6_plan_41 : decode cX6_plan 41 = .ok (.aload_n 0, 1) := by decide +kernel
theorem dX6_plan_42 : decode cX6_plan 42 = .ok (.getfield 177, 3) := by decide +kernel
theorem dX6_plan_45 : decode cX6_plan 45 = .ok (.goto 51, 3) := by decide +kernel
theorem dX6_plan_48 : decode cX6_plan 48 = .ok (.iload_n 1, 1) := by decide +kernel
theorem dX6_plan_49 : decode cX6_plan 49 = .ok (.iconst 1, 1) := by decide +kernel
theorem dX6_plan_50 : decode cX6_plan 50 = .ok (.if_icmp .ne 10, 3) := by decide +kernel
theorem dX6_plan_53 : decode cX6_plan 53 = .ok (.aload_n 0, 1) := by decide +kernel
theorem dX6_plan_54 : decode cX6_plan 54 = .ok (.getfield 170, 3) := by decide +kernel
theorem dX6_plan_57 : decode cX6_plan 57 = .ok (.goto 39, 3) := by decide +kernel
theorem dX6_plan_60 : decode cX6_plan 60 = .ok (.iload_n 1, 1) := by decide +kernel
theorem dX6_plan_61 : decode cX6_plan 61 = .ok (.iconst 2, 1) := by decide +kernel
theorem dX6_plan_62 : decode cX6_plan 62 = .ok (.if_icmp .ne 13, 3) := by decide +kernel
theorem dX6_plan_65 : decode cX6_plan 65 = .ok (.aload_n 0, 1) := by decide +kernel
theorem dX6_plan_66 : decode cX6_plan 66 = .ok (.getfield 173, 3) := by decide +kernel
theorem dX6_plan_69 : decode cX6_plan 69 = .ok (.invokestatic 216, 3) := by decide +kernel
theorem dX6_plan_72 : decode cX6_plan 72 = .ok (.goto 24, 3) := by decide +kernel
theorem dX6_plan_75 : decode cX6_plan 75 = .ok (.aload_n 0, 1) := by decide +kernel
theorem dX6_plan_76 : decode cX6_plan 76 = .ok (.getfield 173, 3) := by decide +kernel
theorem dX6_plan_79 : decode cX6_plan 79 = .ok (.aload_n 0, 1) := by decide +kernel
theorem dX6_plan_80 : decode cX6_plan 80 = .ok (.getfield 25, 3) := by decide +kernel
theorem dX6_plan_83 : decode cX6_plan 83 = .ok (.bipush 7, 2) := by decide +kernel
theorem dX6_plan_85 : decode cX6_plan 85 = .ok (.iaload, 1) := by decide +kernel
theorem dX6_plan_86 : decode cX6_plan 86 = .ok (.i2f, 1) := by decide +kernel
theorem dX6_plan_87 : decode cX6_plan 87 = .ok (.fcmp .l, 1) := by decide +kernel
theorem dX6_plan_88 : decode cX6_plan 88 = .ok (.ifCond .le 7, 3) := by decide +kernel
theorem dX6_plan_91 : decode cX6_plan 91 = .ok (.iconst 1, 1) := by decide +kernel
theorem dX6_plan_92 : decode cX6_plan 92 = .ok (.goto 4, 3) := by decide +kernel
theorem dX6_plan_95 : decode cX6_plan 95 = .ok (.iconst 0, 1) := by decide +kernel
theorem dX6_plan_96 : decode cX6_plan 96 = .ok (.ireturn, 1) := by decide +kernel
set_option maxRecDepth 20000 in
theorem ggX6_plan_X6_planNow : GoodIn wsX6_plan wsX6_planNow := goodIn_r _ [14, 3, 15, 16, 17, 18, 9, 19, 20, 21, 22, 23, 24, 25, 26, 5, 6, 4, 27, 28, 29, 30, 31, 32, 33, 34, 35, 36, 37, 38, 39, 40, 41, 42, 43, 44, 45, 46, 47, 48, 49, 50, 51, 52, 53, 54, 55, 56, 57, 58, 59, 72, 73, 74, 75, 76, 77, 78, 79, 80, 81, 82, 83, 84, 85, 86, 87, 88, 89, 90, 91, 92, 93, 94, 95, 96, 97, 98, 99, 100, 101, 102, 103, 104, 105, 106, 107] rfl (by decide +kernel)
set_option maxRecDepth 20000 in
theorem gX6_plan_X6_planNow : GoodIn wsX6_plan (wsV RX6 245 RX6 yX6_planNow wsX6_planNow) := goodIn_app (goodIn_of _ (by decide +kernel)) ggX6_plan_X6_planNow
set_option maxRecDepth 20000 in
theorem ggX6_plan_Jxf58ca_floatToIntBits_5c35a : GoodIn wsX6_plan wsJxf58ca_floatToIntBits_5c35a := goodIn_r _ [63, 64, 65, 66, 67, 68, 69, 70, 62, 71] rfl (by decide +kernel)
set_option maxRecDepth 20000 in
theorem gX6_plan_Jxf58ca_floatToIntBits_5c35a : GoodIn wsX6_plan (va_wsS RX6 216 yJxf58ca_floatToIntBits_5c35a wsJxf58ca_floatToIntBits_5c35a) := goodIn_app (goodIn_of _ (by decide +kernel)) ggX6_plan_Jxf58ca_floatToIntBits_5c35a
set_option maxRecDepth 100000 in
set_option maxHeartbeats 4000000 in
theorem m_X6_plan {l : Launch} {D : va_G} {E : Nat → ClassId} {T : Nat → Nat} (o : Nat) (xa : Nat) (fa : Nat) (wa : Nat) (la : Nat) (ta : Nat) (ma : Nat) (sa : Nat) (nw : Nat) (nf : Nat) (pa : Nat) (va : Nat) (B : Nat) (u0 : Value) (u1 : Value) (u2 : Value) (u7 : Value) (u8 : Value) (u9 : Value) (u10 : Value) (u13 : Value) (u14 : Value) (u15 : Value) (u16 : Value) (u17 : Value) (u18 : Value) (u19 : Value) (u20 : Value) (u21 : Value) (u22 : Value) (u23 : Value) (u24 : Value) (u25 : Value) (u26 : Value) (u34 : Value) (fl : Nat → Int32) (S : TS) (K : RJ) (k : Nat) (hok : OkS B S) (hB : B + 1 < 2 ^ 31) (hnw : nw ≤ 6) (hnf : nf ≤ 6) (hk : k ≤ 3) (hm : ¬ sM S = 1) : g_M l D E T yX6_plan wsX6_plan 5 120 [.ref o, .int (nI k)] [(o, .inr (6, [u0, u1, u2, .ref xa, .int (nI nw), .int (nI nf), .ref fa, u7, u8, u9, u10, .ref pa, .ref va, u13, u14, u15, u16, u17, u18, u19, u20, u21, u22, u23, u24, u25, u26, .ref wa, .ref la, .ref ta, .int (rS K), .int (rN K), .float (rH K), .ref ma, u34, .ref sa])), (xa, .inl (E 0, 12, .inl (g_tv 0))), (fa, .inl (E 0, 18, .inl fl)), (wa, .inl (E 0, 3, .inl (rW K))), (la, .inl (E 1, 4, .inr (.inr (.inl (rP K))))), (ta, .inl (E 1, 4, .inr (.inr (.inl (rT K))))), (ma, .inl (E 1, 3, .inr (.inr (.inl (rM K))))), (sa, .inl (E 0, 9, .inl (g_tv 1))), (pa, .inl (E 0, 29, .inl (pgF S))), (va, .inl (E 1, 5, .inr (.inr (.inl (fl5 S)))))] [(o, .inr (6, [.int 0, u1, u2, .ref xa, .int (nI nw), .int (nI nf), .ref fa, u7, u8, u9, u10, .ref pa, .ref va, u13, u14, u15, u16, u17, u18, u19, u20, u21, u22, u23, u24, u25, u26, .ref wa, .ref la, .ref ta, .int (rS (pnK nw S K)), .int (rN (pnK nw S K)), .float (rH (pnK nw S K)), .ref ma, u34, .ref sa])), (xa, .inl (E 0, 12, .inl (g_tv 0))), (fa, .inl (E 0, 18, .inl fl)), (wa, .inl (E 0, 3, .inl (rW (pnK nw S K)))), (la, .inl (E 1, 4, .inr (.inr (.inl (rP (pnK nw S K)))))), (ta, .inl (E 1, 4, .inr (.inr (.inl (rT (pnK nw S K)))))), (ma, .inl (E 1, 3, .inr (.inr (.inl (rM (pnK nw S K)))))), (sa, .inl (E 0, 9, .inl (g_tv 1))), (pa, .inl (E 0, 29, .inl (pgF S))), (va, .inl (E 1, 5, .inr (.inr (.inl (fl5 S)))))] (some (.int (plF nw (x3F 0 0 0) S k))) := by
  refine g_M.of (cc := cX6_plan) (nL := 2) (ret := (some .int)) (own := RX6) (lv := [(0, .ref o), (1, .int (nI k))]) (by decide) rfl rfl (Nat.le_of_ble_eq_true rfl) rfl ?_
  intro p e R s m args below meth c A Q H locs ls hR hQ hc hr hw hl
  have hx := hc.1
  have hb := hc.2.1
  have hts := hc.2.2.2.1
  have hown := hc.2.2.2.2.1
  refine lv_aload_n hx hb dX6_plan_0 rfl (lv_at hl 0 rfl) ?_
  refine lv_iconst (v := 0) hx hb dX6_plan_1 (by decide) ?_
  refine g_put (TT := TX6) hc hw inX6_plan_X6 tyX6 tyX6_ok nmX6 0 0 1 rfl rfl (by decide) rfl rfl rfl rfl (Nat.le_of_ble_eq_true rfl) dX6_plan_2 (fun H locs hw => ?_)
  have hw : g_W D A s [(o, .inr (6, [.int 0, u1, u2, .ref xa, .int (nI nw), .int (nI nf), .ref fa, u7, u8, u9, u10, .ref pa, .ref va, u13, u14, u15, u16, u17, u18, u19, u20, u21, u22, u23, u24, u25, u26, .ref wa, .ref la, .ref ta, .int (rS K), .int (rN K), .float (rH K), .ref ma, u34, .ref sa])), (xa, .inl (E 0, 12, .inl (g_tv 0))), (fa, .inl (E 0, 18, .inl fl)), (wa, .inl (E 0, 3, .inl (rW K))), (la, .inl (E 1, 4, .inr (.inr (.inl (rP K))))), (ta, .inl (E 1, 4, .inr (.inr (.inl (rT K))))), (ma, .inl (E 1, 3, .inr (.inr (.inl (rM K))))), (sa, .inl (E 0, 9, .inl (g_tv 1))), (pa, .inl (E 0, 29, .inl (pgF S))), (va, .inl (E 1, 5, .inr (.inr (.inl (fl5 S)))))] H locs := hw
  refine lv_iload_n hx hb dX6_plan_5 rfl (lv_at hl 1 rfl) ?_
  refine lv_i2l hx hb dX6_plan_6 rfl ?_
  refine lv_lconst (v := 0) hx hb dX6_plan_7 (by decide) ?_
  refine lv_ldc2 (v := 3) hx hb hown (hts _ (List.mem_of_getElem? (i := 2) rfl)) dX6_plan_8 ?_
  refine g_cS (As := [.long ((nI k).toInt64), .long 0, .long 3]) (n := 3) (rest := []) (wc := []) (w1 := []) (bytes := cX6_in) (maxL := 6) (ret := (some .boolean)) hc hw hl.1 (m_X6_in (l := l) (D := D) (E := E) (T := T) ((nI k).toInt64) 0 3) gX6_plan_X6_in rfl (by decide +kernel) (by rw [hR]; exact ⟨Nat.le_of_ble_eq_true rfl, Nat.le_of_ble_eq_true rfl⟩) [] (by decide) rfl [] rfl rfl rfl rfl (Nat.le_of_ble_eq_true rfl) dX6_plan_11 ⟨Nat.zero_le _, Nat.zero_le _⟩ (fun H locs hw => ?_)
  have hw : g_W D A s [(o, .inr (6, [.int 0, u1, u2, .ref xa, .int (nI nw), .int (nI nf), .ref fa, u7, u8, u9, u10, .ref pa, .ref va, u13, u14, u15, u16, u17, u18, u19, u20, u21, u22, u23, u24, u25, u26, .ref wa, .ref la, .ref ta, .int (rS K), .int (rN K), .float (rH K), .ref ma, u34, .ref sa])), (xa, .inl (E 0, 12, .inl (g_tv 0))), (fa, .inl (E 0, 18, .inl fl)), (wa, .inl (E 0, 3, .inl (rW K))), (la, .inl (E 1, 4, .inr (.inr (.inl (rP K))))), (ta, .inl (E 1, 4, .inr (.inr (.inl (rT K))))), (ma, .inl (E 1, 3, .inr (.inr (.inl (rM K))))), (sa, .inl (E 0, 9, .inl (g_tv 1))), (pa, .inl (E 0, 29, .inl (pgF S))), (va, .inl (E 1, 5, .inr (.inr (.inl (fl5 S)))))] H locs := hw
  refine W.eq (congrArg (fun z => F0 m 14 ls (.int z :: [])) (show (b2i (inL ((nI k).toInt64) 0 3) : Int32) = 1 from (congrArg b2i (in_i (out_nf (n := k) (a := 0) (b := 3) (by omega) hk (by decide)) (by decide) (by decide))))) ?_
  refine lv_if_ne (tgt := 20) hx hb dX6_plan_14 (by decide) (fun c_14 => ?_) (fun c_14 => absurd c_14 (by decide))
  refine lv_aload_n hx hb dX6_plan_20 rfl (lv_at hl 0 rfl) ?_
  refine g_get (TT := TX6) hc hw inX6_plan_X6 0 11 3 rfl rfl (by decide) rfl rfl dX6_plan_21 ?_
  refine lv_iconst (v := 1) hx hb dX6_plan_24 (by decide) ?_
  refine g_ild hc hw 8 1 rfl rfl (by omega) (by decide) dX6_plan_25 ?_
  refine W.eq (congrArg (fun z => F0 m 26 ls (.int z :: [])) (show ((pgF S) 1 : Int32) = sM S from rfl)) ?_
  refine lv_iconst (v := 1) hx hb dX6_plan_26 (by decide) ?_
  refine lv_icmp_ne (tgt := 33) hx hb dX6_plan_27 (by decide) (fun c_27 => ?_) (fun c_27 => absurd c_27 hm)
  refine lv_aload_n hx hb dX6_plan_33 rfl (lv_at hl 0 rfl) ?_
  refine g_cV (As := []) (n := 0) (rest := []) (wc := [(o, .inr (6, [.int 0, u1, u2, .ref xa, .int (nI nw), .int (nI nf), .ref fa, u7, u8, u9, u10, .ref pa, .ref va, u13, u14, u15, u16, u17, u18, u19, u20, u21, u22, u23, u24, u25, u26, .ref wa, .ref la, .ref ta, .int (rS K), .int (rN K), .float (rH K), .ref ma, u34, .ref sa])), (xa, .inl (E 0, 12, .inl (g_tv 0))), (fa, .inl (E 0, 18, .inl fl)), (wa, .inl (E 0, 3, .inl (rW K))), (la, .inl (E 1, 4, .inr (.inr (.inl (rP K))))), (ta, .inl (E 1, 4, .inr (.inr (.inl (rT K))))), (ma, .inl (E 1, 3, .inr (.inr (.inl (rM K))))), (sa, .inl (E 0, 9, .inl (g_tv 1))), (pa, .inl (E 0, 29, .inl (pgF S))), (va, .inl (E 1, 5, .inr (.inr (.inl (fl5 S)))))]) (w1 := [(o, .inr (6, [.int 0, u1, u2, .ref xa, .int (nI nw), .int (nI nf), .ref fa, u7, u8, u9, u10, .ref pa, .ref va, u13, u14, u15, u16, u17, u18, u19, u20, u21, u22, u23, u24, u25, u26, .ref wa, .ref la, .ref ta, .int (rS (pnK nw S K)), .int (rN (pnK nw S K)), .float (rH (pnK nw S K)), .ref ma, u34, .ref sa])), (xa, .inl (E 0, 12, .inl (g_tv 0))), (fa, .inl (E 0, 18, .inl fl)), (wa, .inl (E 0, 3, .inl (rW (pnK nw S K)))), (la, .inl (E 1, 4, .inr (.inr (.inl (rP (pnK nw S K)))))), (ta, .inl (E 1, 4, .inr (.inr (.inl (rT (pnK nw S K)))))), (ma, .inl (E 1, 3, .inr (.inr (.inl (rM (pnK nw S K)))))), (sa, .inl (E 0, 9, .inl (g_tv 1))), (pa, .inl (E 0, 29, .inl (pgF S))), (va, .inl (E 1, 5, .inr (.inr (.inl (fl5 S)))))]) (bytes := cX6_planNow) (maxL := 1) (ret := none) hc hw hl.1 (m_X6_planNow (l := l) (D := D) (E := E) (T := T) o xa fa wa la ta ma sa nw nf pa va B (.int 0) u1 u2 u7 u8 u9 u10 u13 u14 u15 u16 u17 u18 u19 u20 u21 u22 u23 u24 u25 u26 u34 fl S K hok (by omega) (by first | assumption | omega | decide) (by first | assumption | omega | decide) (hok.2.2.1 (hok.2.1.resolve_right hm))) gX6_plan_X6_planNow rfl (by decide +kernel) (by rw [hR]; exact ⟨Nat.le_of_ble_eq_true rfl, Nat.le_of_ble_eq_true rfl⟩) [0, 1, 2, 3, 4, 5, 6, 7, 8, 9] 0 6 rfl rfl (by decide) rfl [o, xa, fa, wa, la, ta, ma, sa, pa, va] rfl rfl rfl rfl (Nat.le_of_ble_eq_true rfl) dX6_plan_34 ⟨Nat.zero_le _, Nat.zero_le _⟩ (fun H locs hw => ?_)
  have hw : g_W D A s [(o, .inr (6, [.int 0, u1, u2, .ref xa, .int (nI nw), .int (nI nf), .ref fa, u7, u8, u9, u10, .ref pa, .ref va, u13, u14, u15, u16, u17, u18, u19, u20, u21, u22, u23, u24, u25, u26, .ref wa, .ref la, .ref ta, .int (rS (pnK nw S K)), .int (rN (pnK nw S K)), .float (rH (pnK nw S K)), .ref ma, u34, .ref sa])), (xa, .inl (E 0, 12, .inl (g_tv 0))), (fa, .inl (E 0, 18, .inl fl)), (wa, .inl (E 0, 3, .inl (rW (pnK nw S K)))), (la, .inl (E 1, 4, .inr (.inr (.inl (rP (pnK nw S K)))))), (ta, .inl (E 1, 4, .inr (.inr (.inl (rT (pnK nw S K)))))), (ma, .inl (E 1, 3, .inr (.inr (.inl (rM (pnK nw S K)))))), (sa, .inl (E 0, 9, .inl (g_tv 1))), (pa, .inl (E 0, 29, .inl (pgF S))), (va, .inl (E 1, 5, .inr (.inr (.inl (fl5 S)))))] H locs := hw
  refine lv_iload_n hx hb dX6_plan_37 rfl (lv_at hl 1 rfl) ?_
  refine lv_if_ne (tgt := 48) hx hb dX6_plan_38 (by decide) (fun c_38 => ?_) (fun c_38 => ?_)
  · skip
    have n_38 : ¬ k = 0 := nf_neT rfl rfl (by omega) (by omega) c_38
    refine lv_iload_n hx hb dX6_plan_48 rfl (lv_at hl 1 rfl) ?_
    refine lv_iconst (v := 1) hx hb dX6_plan_49 (by decide) ?_
    refine lv_icmp_ne (tgt := 60) hx hb dX6_plan_50 (by decide) (fun c_50 => ?_) (fun c_50 => ?_)
    · skip
      have n_50 : ¬ k = 1 := nf_neT rfl rfl (by omega) (by omega) c_50
      refine lv_iload_n hx hb dX6_plan_60 rfl (lv_at hl 1 rfl) ?_
      refine lv_iconst (v := 2) hx hb dX6_plan_61 (by decide) ?_
      refine lv_icmp_ne (tgt := 75) hx hb dX6_plan_62 (by decide) (fun c_62 => ?_) (fun c_62 => ?_)
      · skip
        have n_62 : ¬ k = 2 := nf_neT rfl rfl (by omega) (by omega) c_62
        refine lv_aload_n hx hb dX6_plan_75 rfl (lv_at hl 0 rfl) ?_
        refine g_get (TT := TX6) hc hw inX6_plan_X6 0 32 6 rfl rfl (by decide) rfl rfl dX6_plan_76 ?_
        refine lv_aload_n hx hb dX6_plan_79 rfl (lv_at hl 0 rfl) ?_
        refine g_get (TT := TX6) hc hw inX6_plan_X6 0 11 3 rfl rfl (by decide) rfl rfl dX6_plan_80 ?_
        refine lv_bipush (v := 7) hx hb dX6_plan_83 (by decide) ?_
        refine g_ild hc hw 8 7 rfl rfl (by omega) (by decide) dX6_plan_85 ?_
        refine W.eq (congrArg (fun z => F0 m 86 ls (.int z :: [.float (rH (pnK nw S K))])) (show ((pgF S) 7 : Int32) = sT S 0 from rfl)) ?_
        refine lv_i2f hx hb dX6_plan_86 ?_
        refine lv_fcmp hx hb dX6_plan_87 ?_
        refine lv_if_le (tgt := 95) hx hb dX6_plan_88 (by decide) (fun c_88 => ?_) (fun c_88 => ?_)
        · skip
          have k_88 := g_clg c_88
          refine lv_iconst (v := 0) hx hb dX6_plan_95 (by decide) ?_
          exact g_iret hQ hc hw hr (by exact congrArg (fun z => some (Value.int z)) (by unfold plF; simp only [if_neg n_38, if_neg n_50, if_neg n_62]; rw [show bS nw (x3F 0 0 0) S = _ from k_88]; rfl)) rfl dX6_plan_96
        · skip
          have k_88 := g_clt c_88
          refine lv_iconst (v := 1) hx hb dX6_plan_91 (by decide) ?_
          refine lv_goto (tgt := 96) hx hb dX6_plan_92 (by decide) ?_
          exact g_iret hQ hc hw hr (by exact congrArg (fun z => some (Value.int z)) (by unfold plF; simp only [if_neg n_38, if_neg n_50, if_neg n_62]; rw [show bS nw (x3F 0 0 0) S = _ from k_88]; rfl)) rfl dX6_plan_96
      · skip
        have n_62 : k = 2 := nf_neF rfl rfl (by omega) (by omega) c_62
        refine lv_aload_n hx hb dX6_plan_65 rfl (lv_at hl 0 rfl) ?_
        refine g_get (TT := TX6) hc hw inX6_plan_X6 0 32 6 rfl rfl (by decide) rfl rfl dX6_plan_66 ?_
        refine g_cS (As := [.float (rH (pnK nw S K))]) (n := 1) (rest := []) (wc := []) (w1 := []) (bytes := cJxf58ca_floatToIntBits_5c35a) (maxL := 1) (ret := (some .int)) hc hw hl.1 (m_Jxf58ca_floatToIntBits_5c35a (l := l) (D := D) (E := E) (T := T) (rH (pnK nw S K)) (g_mgW (hS_ok hok nw (x3F 0 0 0)).1 (by decide))) gX6_plan_Jxf58ca_floatToIntBits_5c35a rfl (by decide +kernel) (by rw [hR]; exact ⟨Nat.le_of_ble_eq_true rfl, Nat.le_of_ble_eq_true rfl⟩) [] (by decide) rfl [] rfl rfl rfl rfl (Nat.le_of_ble_eq_true rfl) dX6_plan_69 ⟨Nat.zero_le _, Nat.zero_le _⟩ (fun H locs hw => ?_)
        have hw : g_W D A s [(o, .inr (6, [.int 0, u1, u2, .ref xa, .int (nI nw), .int (nI nf), .ref fa, u7, u8, u9, u10, .ref pa, .ref va, u13, u14, u15, u16, u17, u18, u19, u20, u21, u22, u23, u24, u25, u26, .ref wa, .ref la, .ref ta, .int (rS (pnK nw S K)), .int (rN (pnK nw S K)), .float (rH (pnK nw S K)), .ref ma, u34, .ref sa])), (xa, .inl (E 0, 12, .inl (g_tv 0))), (fa, .inl (E 0, 18, .inl fl)), (wa, .inl (E 0, 3, .inl (rW (pnK nw S K)))), (la, .inl (E 1, 4, .inr (.inr (.inl (rP (pnK nw S K)))))), (ta, .inl (E 1, 4, .inr (.inr (.inl (rT (pnK nw S K)))))), (ma, .inl (E 1, 3, .inr (.inr (.inl (rM (pnK nw S K)))))), (sa, .inl (E 0, 9, .inl (g_tv 1))), (pa, .inl (E 0, 29, .inl (pgF S))), (va, .inl (E 1, 5, .inr (.inr (.inl (fl5 S)))))] H locs := hw
        refine lv_goto (tgt := 96) hx hb dX6_plan_72 (by decide) ?_
        exact g_iret hQ hc hw hr (by exact congrArg (fun z => some (Value.int z)) (by unfold plF; simp only [if_neg n_38, if_neg n_50, if_pos n_62]; rfl)) rfl dX6_plan_96
    · skip
      have n_50 : k = 1 := nf_neF rfl rfl (by omega) (by omega) c_50
      refine lv_aload_n hx hb dX6_plan_53 rfl (lv_at hl 0 rfl) ?_
      refine g_get (TT := TX6) hc hw inX6_plan_X6 0 31 5 rfl rfl (by decide) rfl rfl dX6_plan_54 ?_
      refine lv_goto (tgt := 96) hx hb dX6_plan_57 (by decide) ?_
      exact g_iret hQ hc hw hr (by exact congrArg (fun z => some (Value.int z)) (by unfold plF; simp only [if_neg n_38, if_pos n_50]; rfl)) rfl dX6_plan_96
  · skip
    have n_38 : k = 0 := nf_neF rfl rfl (by omega) (by omega) c_38
    refine lv_aload_n hx hb dX6_plan_41 rfl (lv_at hl 0 rfl) ?_
    refine g_get (TT := TX6) hc hw inX6_plan_X6 0 30 4 rfl rfl (by decide) rfl rfl dX6_plan_42 ?_
    refine lv_goto (tgt := 96) hx hb dX6_plan_45 (by decide) ?_
    exact g_iret hQ hc hw hr (by exact congrArg (fun z => some (Value.int z)) (by unfold plF; simp only [if_pos n_38]; rfl)) rfl dX6_plan_96

theorem dX6_next_0 : decode cX6_next 0 = .ok (.aload_n 0, 1) := by decide +kernel
theorem dX6_next_1 : decode cX6_next 1 = .ok (.iconst 0, 1) := by decide +kernel
theorem dX6_next_2 : decode cX6_next 2 = .ok (.putfield 88, 3) := by decide +kernel
theorem dX6_next_5 : decode cX6_next 5 = .ok (.iload_n 1, 1) := by decide +kernel
theorem dX6_next_6 : decode cX6_next 6 = .ok (.invokestatic 213, 3) := by decide +kernel
theorem dX6_next_9 : decode cX6_next 9 = .ok (.ifCond .eq 5, 3) := by decide +kernel
theorem dX6_next_12 : decode cX6_next 12 = .ok (.iconst (-1), 1) := by decide +kernel
theorem dX6_next_13 : decode cX6_next 13 = .ok (.ireturn, 1) := by decide +kernel
set_option maxRecDepth 20000 in
theorem ggX6_next_X6_noWheel : GoodIn wsX6_next wsX6_noWheel := goodIn_r _ [7, 8, 9, 10, 6, 11] rfl (by decide +kernel)
set_option maxRecDepth 20000 in
theorem gX6_next_X6_noWheel : GoodIn wsX6_next (va_wsS RX6 213 yX6_noWheel wsX6_noWheel) := goodIn_app (goodIn_of _ (by decide +kernel)) ggX6_next_X6_noWheel
theorem inX6_next_X6 : ∀ w ∈ u_ws RX6 TX6 36, w ∈ wsX6_next := fun w h => List.mem_cons_of_mem _ (List.mem_append_right _ h)
set_option maxRecDepth 100000 in
set_option maxHeartbeats 4000000 in
theorem m_X6_next_out {l : Launch} {D : va_G} {E : Nat → ClassId} {T : Nat → Nat} (o : Nat) (u0 : Value) (u1 : Value) (u2 : Value) (u3 : Value) (u4 : Value) (u5 : Value) (u6 : Value) (u7 : Value) (u8 : Value) (u9 : Value) (u10 : Value) (u11 : Value) (u12 : Value) (u13 : Value) (u14 : Value) (u15 : Value) (u16 : Value) (u17 : Value) (u18 : Value) (u19 : Value) (u20 : Value) (u21 : Value) (u22 : Value) (u23 : Value) (u24 : Value) (u25 : Value) (u26 : Value) (u27 : Value) (u28 : Value) (u29 : Value) (u30 : Value) (u31 : Value) (u32 : Value) (u33 : Value) (u34 : Value) (u35 : Value) (v : Int32) (ho : outB v 0 3 = true) : g_M l D E T yX6_next wsX6_next 2 45 [.ref o, .int v] [(o, .inr (6, [u0, u1, u2, u3, u4, u5, u6, u7, u8, u9, u10, u11, u12, u13, u14, u15, u16, u17, u18, u19, u20, u21, u22, u23, u24, u25, u26, u27, u28, u29, u30, u31, u32, u33, u34, u35]))] [(o, .inr (6, [.int 0, u1, u2, u3, u4, u5, u6, u7, u8, u9, u10, u11, u12, u13, u14, u15, u16, u17, u18, u19, u20, u21, u22, u23, u24, u25, u26, u27, u28, u29, u30, u31, u32, u33, u34, u35]))] (some (.int (-1))) := by
  refine g_M.of (cc := cX6_next) (nL := 2) (ret := (some .int)) (own := RX6) (lv := [(0, .ref o), (1, .int v)]) (by decide) rfl rfl (Nat.le_of_ble_eq_true rfl) rfl ?_
  intro p e R s m args below meth c A Q H locs ls hR hQ hc hr hw hl
  have hx := hc.1
  have hb := hc.2.1
  have hts := hc.2.2.2.1
  have hown := hc.2.2.2.2.1
  refine lv_aload_n hx hb dX6_next_0 rfl (lv_at hl 0 rfl) ?_
  refine lv_iconst (v := 0) hx hb dX6_next_1 (by decide) ?_
  refine g_put (TT := TX6) hc hw inX6_next_X6 tyX6 tyX6_ok nmX6 0 0 1 rfl rfl (by decide) rfl rfl rfl rfl (Nat.le_of_ble_eq_true rfl) dX6_next_2 (fun H locs hw => ?_)
  have hw : g_W D A s [(o, .inr (6, [.int 0, u1, u2, u3, u4, u5, u6, u7, u8, u9, u10, u11, u12, u13, u14, u15, u16, u17, u18, u19, u20, u21, u22, u23, u24, u25, u26, u27, u28, u29, u30, u31, u32, u33, u34, u35]))] H locs := hw
  refine lv_iload_n hx hb dX6_next_5 rfl (lv_at hl 1 rfl) ?_
  refine g_cS (As := [.int v]) (n := 1) (rest := []) (wc := []) (w1 := []) (bytes := cX6_noWheel) (maxL := 1) (ret := (some .boolean)) hc hw hl.1 (m_X6_noWheel (l := l) (D := D) (E := E) (T := T) v) gX6_next_X6_noWheel rfl (by decide +kernel) (by rw [hR]; exact ⟨Nat.le_of_ble_eq_true rfl, Nat.le_of_ble_eq_true rfl⟩) [] (by decide) rfl [] rfl rfl rfl rfl (Nat.le_of_ble_eq_true rfl) dX6_next_6 ⟨Nat.zero_le _, Nat.zero_le _⟩ (fun H locs hw => ?_)
  have hw : g_W D A s [(o, .inr (6, [.int 0, u1, u2, u3, u4, u5, u6, u7, u8, u9, u10, u11, u12, u13, u14, u15, u16, u17, u18, u19, u20, u21, u22, u23, u24, u25, u26, u27, u28, u29, u30, u31, u32, u33, u34, u35]))] H locs := hw
  refine W.eq (congrArg (fun z => F0 m 9 ls (.int z :: [])) (show (b2i (outB v 0 3) : Int32) = 1 from (congrArg b2i ho))) ?_
  refine lv_if_eq (tgt := 14) hx hb dX6_next_9 (by decide) (fun c_9 => absurd c_9 (by decide)) (fun c_9 => ?_)
  refine lv_iconst (v := (-1)) hx hb dX6_next_12 (by decide) ?_
  exact g_iret hQ hc hw hr rfl rfl dX6_next_13

theorem dX6_next_14 : decode cX6_next 14 = .ok (.aload_n 0, 1) := by decide +kernel
theorem dX6_next_15 : decode cX6_next 15 = .ok (.getfield 25, 3) := by decide +kernel
theorem dX6_next_18 : decode cX6_next 18 = .ok (.iconst 1, 1) := by decide +kernel
theorem dX6_next_19 : decode cX6_next 19 = .ok (.iaload, 1) := by decide +kernel
theorem dX6_next_20 : decode cX6_next 20 = .ok (.iconst 1, 1) := by decide +kernel
theorem dX6_next_21 : decode cX6_next 21 = .ok (.if_icmp .ne 6, 3) := by decide +kernel
theorem dX6_next_24 : decode cX6_next 24 = .ok (.bipush (-3), 2) := by decide +kernel
theorem dX6_next_26 : decode cX6_next 26 = .ok (.ireturn, 1) := by decide +kernel
set_option maxRecDepth 100000 in
set_option maxHeartbeats 4000000 in
theorem m_X6_next_safe {l : Launch} {D : va_G} {E : Nat → ClassId} {T : Nat → Nat} (o : Nat) (pa : Nat) (k : Nat) (u0 : Value) (u1 : Value) (u2 : Value) (u3 : Value) (u4 : Value) (u5 : Value) (u6 : Value) (u7 : Value) (u8 : Value) (u9 : Value) (u10 : Value) (u12 : Value) (u13 : Value) (u14 : Value) (u15 : Value) (u16 : Value) (u17 : Value) (u18 : Value) (u19 : Value) (u20 : Value) (u21 : Value) (u22 : Value) (u23 : Value) (u24 : Value) (u25 : Value) (u26 : Value) (u27 : Value) (u28 : Value) (u29 : Value) (u30 : Value) (u31 : Value) (u32 : Value) (u33 : Value) (u34 : Value) (u35 : Value) (S : TS) (hk : k ≤ 3) (hm : sM S = 1) : g_M l D E T yX6_next wsX6_next 2 45 [.ref o, .int (nI k)] [(o, .inr (6, [u0, u1, u2, u3, u4, u5, u6, u7, u8, u9, u10, .ref pa, u12, u13, u14, u15, u16, u17, u18, u19, u20, u21, u22, u23, u24, u25, u26, u27, u28, u29, u30, u31, u32, u33, u34, u35])), (pa, .inl (E 0, 29, .inl (pgF S)))] [(o, .inr (6, [.int 0, u1, u2, u3, u4, u5, u6, u7, u8, u9, u10, .ref pa, u12, u13, u14, u15, u16, u17, u18, u19, u20, u21, u22, u23, u24, u25, u26, u27, u28, u29, u30, u31, u32, u33, u34, u35])), (pa, .inl (E 0, 29, .inl (pgF S)))] (some (.int (-3))) := by
  refine g_M.of (cc := cX6_next) (nL := 2) (ret := (some .int)) (own := RX6) (lv := [(0, .ref o), (1, .int (nI k))]) (by decide) rfl rfl (Nat.le_of_ble_eq_true rfl) rfl ?_
  intro p e R s m args below meth c A Q H locs ls hR hQ hc hr hw hl
  have hx := hc.1
  have hb := hc.2.1
  have hts := hc.2.2.2.1
  have hown := hc.2.2.2.2.1
  refine lv_aload_n hx hb dX6_next_0 rfl (lv_at hl 0 rfl) ?_
  refine lv_iconst (v := 0) hx hb dX6_next_1 (by decide) ?_
  refine g_put (TT := TX6) hc hw inX6_next_X6 tyX6 tyX6_ok nmX6 0 0 1 rfl rfl (by decide) rfl rfl rfl rfl (Nat.le_of_ble_eq_true rfl) dX6_next_2 (fun H locs hw => ?_)
  have hw : g_W D A s [(o, .inr (6, [.int 0, u1, u2, u3, u4, u5, u6, u7, u8, u9, u10, .ref pa, u12, u13, u14, u15, u16, u17, u18, u19, u20, u21, u22, u23, u24, u25, u26, u27, u28, u29, u30, u31, u32, u33, u34, u35])), (pa, .inl (E 0, 29, .inl (pgF S)))] H locs := hw
  refine lv_iload_n hx hb dX6_next_5 rfl (lv_at hl 1 rfl) ?_
  refine g_cS (As := [.int (nI k)]) (n := 1) (rest := []) (wc := []) (w1 := []) (bytes := cX6_noWheel) (maxL := 1) (ret := (some .boolean)) hc hw hl.1 (m_X6_noWheel (l := l) (D := D) (E := E) (T := T) (nI k)) gX6_next_X6_noWheel rfl (by decide +kernel) (by rw [hR]; exact ⟨Nat.le_of_ble_eq_true rfl, Nat.le_of_ble_eq_true rfl⟩) [] (by decide) rfl [] rfl rfl rfl rfl (Nat.le_of_ble_eq_true rfl) dX6_next_6 ⟨Nat.zero_le _, Nat.zero_le _⟩ (fun H locs hw => ?_)
  have hw : g_W D A s [(o, .inr (6, [.int 0, u1, u2, u3, u4, u5, u6, u7, u8, u9, u10, .ref pa, u12, u13, u14, u15, u16, u17, u18, u19, u20, u21, u22, u23, u24, u25, u26, u27, u28, u29, u30, u31, u32, u33, u34, u35])), (pa, .inl (E 0, 29, .inl (pgF S)))] H locs := hw
  refine W.eq (congrArg (fun z => F0 m 9 ls (.int z :: [])) (show (b2i (outB (nI k) 0 3) : Int32) = 0 from (congrArg b2i (out_nf (n := k) (a := 0) (b := 3) (by omega) hk (by decide))))) ?_
  refine lv_if_eq (tgt := 14) hx hb dX6_next_9 (by decide) (fun c_9 => ?_) (fun c_9 => absurd c_9 (by decide))
  refine lv_aload_n hx hb dX6_next_14 rfl (lv_at hl 0 rfl) ?_
  refine g_get (TT := TX6) hc hw inX6_next_X6 0 11 2 rfl rfl (by decide) rfl rfl dX6_next_15 ?_
  refine lv_iconst (v := 1) hx hb dX6_next_18 (by decide) ?_
  refine g_ild hc hw 1 1 rfl rfl (by omega) (by decide) dX6_next_19 ?_
  refine W.eq (congrArg (fun z => F0 m 20 ls (.int z :: [])) (show ((pgF S) 1 : Int32) = sM S from rfl)) ?_
  refine lv_iconst (v := 1) hx hb dX6_next_20 (by decide) ?_
  refine lv_icmp_ne (tgt := 27) hx hb dX6_next_21 (by decide) (fun c_21 => absurd hm c_21) (fun c_21 => ?_)
  refine lv_bipush (v := (-3)) hx hb dX6_next_24 (by decide) ?_
  exact g_iret hQ hc hw hr rfl rfl dX6_next_26

theorem dX6_next_27 : decode cX6_next 27 = .ok (.aload_n 0, 1) := by decide +kernel
theorem dX6_next_28 : decode cX6_next 28 = .ok (.invokevirtual 245, 3) := by decide +kernel
theorem dX6_next_31 : decode cX6_next 31 = .ok (.aload_n 0, 1) := by decide +kernel
theorem dX6_next_32 : decode cX6_next 32 = .ok (.getfield 69, 3) := by decide +kernel
theorem dX6_next_35 : decode cX6_next 35 = .ok (.iload_n 1, 1) := by decide +kernel
theorem dX6_next_36 : decode cX6_next 36 = .ok (.faload, 1) := by decide +kernel
theorem dX6_next_37 : decode cX6_next 37 = .ok (.invokestatic 216, 3) := by decide +kernel
theorem dX6_next_40 : decode cX6_next 40 = .ok (.ireturn, 1) := by decide +kernel
set_option maxRecDepth 20000 in
theorem ggX6_next_X6_planNow : GoodIn wsX6_next wsX6_planNow := goodIn_r _ [15, 2, 16, 17, 18, 19, 6, 20, 21, 22, 23, 24, 25, 26, 27, 28, 29, 30, 3, 31, 32, 33, 34, 35, 36, 37, 38, 39, 40, 41, 42, 43, 44, 45, 46, 47, 48, 49, 50, 51, 52, 53, 54, 55, 56, 57, 58, 59, 60, 61, 62, 75, 76, 77, 78, 79, 80, 81, 82, 83, 84, 85, 86, 87, 88, 89, 90, 91, 92, 93, 94, 95, 96, 97, 98, 99, 100, 101, 102, 103, 104, 105, 106, 107, 108, 109, 110] rfl (by decide +kernel)
set_option maxRecDepth 20000 in
theorem gX6_next_X6_planNow : GoodIn wsX6_next (wsV RX6 245 RX6 yX6_planNow wsX6_planNow) := goodIn_app (goodIn_of _ (by decide +kernel)) ggX6_next_X6_planNow
set_option maxRecDepth 20000 in
theorem ggX6_next_Jxf58ca_floatToIntBits_5c35a : GoodIn wsX6_next wsJxf58ca_floatToIntBits_5c35a := goodIn_r _ [66, 67, 68, 69, 70, 71, 72, 73, 65, 74] rfl (by decide +kernel)
set_option maxRecDepth 20000 in
theorem gX6_next_Jxf58ca_floatToIntBits_5c35a : GoodIn wsX6_next (va_wsS RX6 216 yJxf58ca_floatToIntBits_5c35a wsJxf58ca_floatToIntBits_5c35a) := goodIn_app (goodIn_of _ (by decide +kernel)) ggX6_next_Jxf58ca_floatToIntBits_5c35a
set_option maxRecDepth 100000 in
set_option maxHeartbeats 4000000 in
theorem m_X6_next {l : Launch} {D : va_G} {E : Nat → ClassId} {T : Nat → Nat} (o : Nat) (xa : Nat) (fa : Nat) (wa : Nat) (la : Nat) (ta : Nat) (ma : Nat) (sa : Nat) (nw : Nat) (nf : Nat) (pa : Nat) (va : Nat) (B : Nat) (u0 : Value) (u1 : Value) (u2 : Value) (u7 : Value) (u8 : Value) (u9 : Value) (u10 : Value) (u13 : Value) (u14 : Value) (u15 : Value) (u16 : Value) (u17 : Value) (u18 : Value) (u19 : Value) (u20 : Value) (u21 : Value) (u22 : Value) (u23 : Value) (u24 : Value) (u25 : Value) (u26 : Value) (u34 : Value) (fl : Nat → Int32) (S : TS) (K : RJ) (k : Nat) (hok : OkS B S) (hB : B + 1 < 2 ^ 31) (hnw : nw ≤ 6) (hnf : nf ≤ 6) (hk : k ≤ 3) (hm : ¬ sM S = 1) : g_M l D E T yX6_next wsX6_next 5 120 [.ref o, .int (nI k)] [(o, .inr (6, [u0, u1, u2, .ref xa, .int (nI nw), .int (nI nf), .ref fa, u7, u8, u9, u10, .ref pa, .ref va, u13, u14, u15, u16, u17, u18, u19, u20, u21, u22, u23, u24, u25, u26, .ref wa, .ref la, .ref ta, .int (rS K), .int (rN K), .float (rH K), .ref ma, u34, .ref sa])), (xa, .inl (E 0, 12, .inl (g_tv 0))), (fa, .inl (E 0, 18, .inl fl)), (wa, .inl (E 0, 3, .inl (rW K))), (la, .inl (E 1, 4, .inr (.inr (.inl (rP K))))), (ta, .inl (E 1, 4, .inr (.inr (.inl (rT K))))), (ma, .inl (E 1, 3, .inr (.inr (.inl (rM K))))), (sa, .inl (E 0, 9, .inl (g_tv 1))), (pa, .inl (E 0, 29, .inl (pgF S))), (va, .inl (E 1, 5, .inr (.inr (.inl (fl5 S)))))] [(o, .inr (6, [.int 0, u1, u2, .ref xa, .int (nI nw), .int (nI nf), .ref fa, u7, u8, u9, u10, .ref pa, .ref va, u13, u14, u15, u16, u17, u18, u19, u20, u21, u22, u23, u24, u25, u26, .ref wa, .ref la, .ref ta, .int (rS (pnK nw S K)), .int (rN (pnK nw S K)), .float (rH (pnK nw S K)), .ref ma, u34, .ref sa])), (xa, .inl (E 0, 12, .inl (g_tv 0))), (fa, .inl (E 0, 18, .inl fl)), (wa, .inl (E 0, 3, .inl (rW (pnK nw S K)))), (la, .inl (E 1, 4, .inr (.inr (.inl (rP (pnK nw S K)))))), (ta, .inl (E 1, 4, .inr (.inr (.inl (rT (pnK nw S K)))))), (ma, .inl (E 1, 3, .inr (.inr (.inl (rM (pnK nw S K)))))), (sa, .inl (E 0, 9, .inl (g_tv 1))), (pa, .inl (E 0, 29, .inl (pgF S))), (va, .inl (E 1, 5, .inr (.inr (.inl (fl5 S)))))] (some (.int (bitI (neA nw (x3F 0 0 0) S k)))) := by
  refine g_M.of (cc := cX6_next) (nL := 2) (ret := (some .int)) (own := RX6) (lv := [(0, .ref o), (1, .int (nI k))]) (by decide) rfl rfl (Nat.le_of_ble_eq_true rfl) rfl ?_
  intro p e R s m args below meth c A Q H locs ls hR hQ hc hr hw hl
  have hx := hc.1
  have hb := hc.2.1
  have hts := hc.2.2.2.1
  have hown := hc.2.2.2.2.1
  refine lv_aload_n hx hb dX6_next_0 rfl (lv_at hl 0 rfl) ?_
  refine lv_iconst (v := 0) hx hb dX6_next_1 (by decide) ?_
  refine g_put (TT := TX6) hc hw inX6_next_X6 tyX6 tyX6_ok nmX6 0 0 1 rfl rfl (by decide) rfl rfl rfl rfl (Nat.le_of_ble_eq_true rfl) dX6_next_2 (fun H locs hw => ?_)
  have hw : g_W D A s [(o, .inr (6, [.int 0, u1, u2, .ref xa, .int (nI nw), .int (nI nf), .ref fa, u7, u8, u9, u10, .ref pa, .ref va, u13, u14, u15, u16, u17, u18, u19, u20, u21, u22, u23, u24, u25, u26, .ref wa, .ref la, .ref ta, .int (rS K), .int (rN K), .float (rH K), .ref ma, u34, .ref sa])), (xa, .inl (E 0, 12, .inl (g_tv 0))), (fa, .inl (E 0, 18, .inl fl)), (wa, .inl (E 0, 3, .inl (rW K))), (la, .inl (E 1, 4, .inr (.inr (.inl (rP K))))), (ta, .inl (E 1, 4, .inr (.inr (.inl (rT K))))), (ma, .inl (E 1, 3, .inr (.inr (.inl (rM K))))), (sa, .inl (E 0, 9, .inl (g_tv 1))), (pa, .inl (E 0, 29, .inl (pgF S))), (va, .inl (E 1, 5, .inr (.inr (.inl (fl5 S)))))] H locs := hw
  refine lv_iload_n hx hb dX6_next_5 rfl (lv_at hl 1 rfl) ?_
  refine g_cS (As := [.int (nI k)]) (n := 1) (rest := []) (wc := []) (w1 := []) (bytes := cX6_noWheel) (maxL := 1) (ret := (some .boolean)) hc hw hl.1 (m_X6_noWheel (l := l) (D := D) (E := E) (T := T) (nI k)) gX6_next_X6_noWheel rfl (by decide +kernel) (by rw [hR]; exact ⟨Nat.le_of_ble_eq_true rfl, Nat.le_of_ble_eq_true rfl⟩) [] (by decide) rfl [] rfl rfl rfl rfl (Nat.le_of_ble_eq_true rfl) dX6_next_6 ⟨Nat.zero_le _, Nat.zero_le _⟩ (fun H locs hw => ?_)
  have hw : g_W D A s [(o, .inr (6, [.int 0, u1, u2, .ref xa, .int (nI nw), .int (nI nf), .ref fa, u7, u8, u9, u10, .ref pa, .ref va, u13, u14, u15, u16, u17, u18, u19, u20, u21, u22, u23, u24, u25, u26, .ref wa, .ref la, .ref ta, .int (rS K), .int (rN K), .float (rH K), .ref ma, u34, .ref sa])), (xa, .inl (E 0, 12, .inl (g_tv 0))), (fa, .inl (E 0, 18, .inl fl)), (wa, .inl (E 0, 3, .inl (rW K))), (la, .inl (E 1, 4, .inr (.inr (.inl (rP K))))), (ta, .inl (E 1, 4, .inr (.inr (.inl (rT K))))), (ma, .inl (E 1, 3, .inr (.inr (.inl (rM K))))), (sa, .inl (E 0, 9, .inl (g_tv 1))), (pa, .inl (E 0, 29, .inl (pgF S))), (va, .inl (E 1, 5, .inr (.inr (.inl (fl5 S)))))] H locs := hw
  refine W.eq (congrArg (fun z => F0 m 9 ls (.int z :: [])) (show (b2i (outB (nI k) 0 3) : Int32) = 0 from (congrArg b2i (out_nf (n := k) (a := 0) (b := 3) (by omega) hk (by decide))))) ?_
  refine lv_if_eq (tgt := 14) hx hb dX6_next_9 (by decide) (fun c_9 => ?_) (fun c_9 => absurd c_9 (by decide))
  refine lv_aload_n hx hb dX6_next_14 rfl (lv_at hl 0 rfl) ?_
  refine g_get (TT := TX6) hc hw inX6_next_X6 0 11 2 rfl rfl (by decide) rfl rfl dX6_next_15 ?_
  refine lv_iconst (v := 1) hx hb dX6_next_18 (by decide) ?_
  refine g_ild hc hw 8 1 rfl rfl (by omega) (by decide) dX6_next_19 ?_
  refine W.eq (congrArg (fun z => F0 m 20 ls (.int z :: [])) (show ((pgF S) 1 : Int32) = sM S from rfl)) ?_
  refine lv_iconst (v := 1) hx hb dX6_next_20 (by decide) ?_
  refine lv_icmp_ne (tgt := 27) hx hb dX6_next_21 (by decide) (fun c_21 => ?_) (fun c_21 => absurd c_21 hm)
  refine lv_aload_n hx hb dX6_next_27 rfl (lv_at hl 0 rfl) ?_
  refine g_cV (As := []) (n := 0) (rest := []) (wc := [(o, .inr (6, [.int 0, u1, u2, .ref xa, .int (nI nw), .int (nI nf), .ref fa, u7, u8, u9, u10, .ref pa, .ref va, u13, u14, u15, u16, u17, u18, u19, u20, u21, u22, u23, u24, u25, u26, .ref wa, .ref la, .ref ta, .int (rS K), .int (rN K), .float (rH K), .ref ma, u34, .ref sa])), (xa, .inl (E 0, 12, .inl (g_tv 0))), (fa, .inl (E 0, 18, .inl fl)), (wa, .inl (E 0, 3, .inl (rW K))), (la, .inl (E 1, 4, .inr (.inr (.inl (rP K))))), (ta, .inl (E 1, 4, .inr (.inr (.inl (rT K))))), (ma, .inl (E 1, 3, .inr (.inr (.inl (rM K))))), (sa, .inl (E 0, 9, .inl (g_tv 1))), (pa, .inl (E 0, 29, .inl (pgF S))), (va, .inl (E 1, 5, .inr (.inr (.inl (fl5 S)))))]) (w1 := [(o, .inr (6, [.int 0, u1, u2, .ref xa, .int (nI nw), .int (nI nf), .ref fa, u7, u8, u9, u10, .ref pa, .ref va, u13, u14, u15, u16, u17, u18, u19, u20, u21, u22, u23, u24, u25, u26, .ref wa, .ref la, .ref ta, .int (rS (pnK nw S K)), .int (rN (pnK nw S K)), .float (rH (pnK nw S K)), .ref ma, u34, .ref sa])), (xa, .inl (E 0, 12, .inl (g_tv 0))), (fa, .inl (E 0, 18, .inl fl)), (wa, .inl (E 0, 3, .inl (rW (pnK nw S K)))), (la, .inl (E 1, 4, .inr (.inr (.inl (rP (pnK nw S K)))))), (ta, .inl (E 1, 4, .inr (.inr (.inl (rT (pnK nw S K)))))), (ma, .inl (E 1, 3, .inr (.inr (.inl (rM (pnK nw S K)))))), (sa, .inl (E 0, 9, .inl (g_tv 1))), (pa, .inl (E 0, 29, .inl (pgF S))), (va, .inl (E 1, 5, .inr (.inr (.inl (fl5 S)))))]) (bytes := cX6_planNow) (maxL := 1) (ret := none) hc hw hl.1 (m_X6_planNow (l := l) (D := D) (E := E) (T := T) o xa fa wa la ta ma sa nw nf pa va B (.int 0) u1 u2 u7 u8 u9 u10 u13 u14 u15 u16 u17 u18 u19 u20 u21 u22 u23 u24 u25 u26 u34 fl S K hok (by omega) (by first | assumption | omega | decide) (by first | assumption | omega | decide) (hok.2.2.1 (hok.2.1.resolve_right hm))) gX6_next_X6_planNow rfl (by decide +kernel) (by rw [hR]; exact ⟨Nat.le_of_ble_eq_true rfl, Nat.le_of_ble_eq_true rfl⟩) [0, 1, 2, 3, 4, 5, 6, 7, 8, 9] 0 6 rfl rfl (by decide) rfl [o, xa, fa, wa, la, ta, ma, sa, pa, va] rfl rfl rfl rfl (Nat.le_of_ble_eq_true rfl) dX6_next_28 ⟨Nat.zero_le _, Nat.zero_le _⟩ (fun H locs hw => ?_)
  have hw : g_W D A s [(o, .inr (6, [.int 0, u1, u2, .ref xa, .int (nI nw), .int (nI nf), .ref fa, u7, u8, u9, u10, .ref pa, .ref va, u13, u14, u15, u16, u17, u18, u19, u20, u21, u22, u23, u24, u25, u26, .ref wa, .ref la, .ref ta, .int (rS (pnK nw S K)), .int (rN (pnK nw S K)), .float (rH (pnK nw S K)), .ref ma, u34, .ref sa])), (xa, .inl (E 0, 12, .inl (g_tv 0))), (fa, .inl (E 0, 18, .inl fl)), (wa, .inl (E 0, 3, .inl (rW (pnK nw S K)))), (la, .inl (E 1, 4, .inr (.inr (.inl (rP (pnK nw S K)))))), (ta, .inl (E 1, 4, .inr (.inr (.inl (rT (pnK nw S K)))))), (ma, .inl (E 1, 3, .inr (.inr (.inl (rM (pnK nw S K)))))), (sa, .inl (E 0, 9, .inl (g_tv 1))), (pa, .inl (E 0, 29, .inl (pgF S))), (va, .inl (E 1, 5, .inr (.inr (.inl (fl5 S)))))] H locs := hw
  refine lv_aload_n hx hb dX6_next_31 rfl (lv_at hl 0 rfl) ?_
  refine g_get (TT := TX6) hc hw inX6_next_X6 0 28 3 rfl rfl (by decide) rfl rfl dX6_next_32 ?_
  refine lv_iload_n hx hb dX6_next_35 rfl (lv_at hl 1 rfl) ?_
  refine g_fld hc hw 4 k rfl rfl (by omega) (by decide) dX6_next_36 ?_
  refine W.eq (congrArg (fun z => F0 m 37 ls (.float z :: [])) (show ((rP (pnK nw S K)) k : UInt32) = neA nw (x3F 0 0 0) S k from (ne_amA nw (x3F 0 0 0) S (by omega)))) ?_
  refine g_cS (As := [.float (neA nw (x3F 0 0 0) S k)]) (n := 1) (rest := []) (wc := []) (w1 := []) (bytes := cJxf58ca_floatToIntBits_5c35a) (maxL := 1) (ret := (some .int)) hc hw hl.1 (m_Jxf58ca_floatToIntBits_5c35a (l := l) (D := D) (E := E) (T := T) (neA nw (x3F 0 0 0) S k) (ne_mg hok nw (x3F 0 0 0) (by omega))) gX6_next_Jxf58ca_floatToIntBits_5c35a rfl (by decide +kernel) (by rw [hR]; exact ⟨Nat.le_of_ble_eq_true rfl, Nat.le_of_ble_eq_true rfl⟩) [] (by decide) rfl [] rfl rfl rfl rfl (Nat.le_of_ble_eq_true rfl) dX6_next_37 ⟨Nat.zero_le _, Nat.zero_le _⟩ (fun H locs hw => ?_)
  have hw : g_W D A s [(o, .inr (6, [.int 0, u1, u2, .ref xa, .int (nI nw), .int (nI nf), .ref fa, u7, u8, u9, u10, .ref pa, .ref va, u13, u14, u15, u16, u17, u18, u19, u20, u21, u22, u23, u24, u25, u26, .ref wa, .ref la, .ref ta, .int (rS (pnK nw S K)), .int (rN (pnK nw S K)), .float (rH (pnK nw S K)), .ref ma, u34, .ref sa])), (xa, .inl (E 0, 12, .inl (g_tv 0))), (fa, .inl (E 0, 18, .inl fl)), (wa, .inl (E 0, 3, .inl (rW (pnK nw S K)))), (la, .inl (E 1, 4, .inr (.inr (.inl (rP (pnK nw S K)))))), (ta, .inl (E 1, 4, .inr (.inr (.inl (rT (pnK nw S K)))))), (ma, .inl (E 1, 3, .inr (.inr (.inl (rM (pnK nw S K)))))), (sa, .inl (E 0, 9, .inl (g_tv 1))), (pa, .inl (E 0, 29, .inl (pgF S))), (va, .inl (E 1, 5, .inr (.inr (.inl (fl5 S)))))] H locs := hw
  exact g_iret hQ hc hw hr rfl rfl dX6_next_40

theorem dX6_ahead_0 : decode cX6_ahead 0 = .ok (.aload_n 0, 1) := by decide +kernel
theorem dX6_ahead_1 : decode cX6_ahead 1 = .ok (.iconst 0, 1) := by decide +kernel
theorem dX6_ahead_2 : decode cX6_ahead 2 = .ok (.putfield 88, 3) := by decide +kernel
theorem dX6_ahead_5 : decode cX6_ahead 5 = .ok (.iload_n 1, 1) := by decide +kernel
theorem dX6_ahead_6 : decode cX6_ahead 6 = .ok (.i2l, 1) := by decide +kernel
theorem dX6_ahead_7 : decode cX6_ahead 7 = .ok (.lconst 0, 1) := by decide +kernel
theorem dX6_ahead_8 : decode cX6_ahead 8 = .ok (.ldc2_w 229, 3) := by decide +kernel
theorem dX6_ahead_11 : decode cX6_ahead 11 = .ok (.invokestatic 94, 3) := by decide +kernel
theorem dX6_ahead_14 : decode cX6_ahead 14 = .ok (.ifCond .ne 6, 3) := by decide +kernel
theorem dX6_ahead_17 : decode cX6_ahead 17 = .ok (.bipush (-2), 2) := by decide +kernel
theorem dX6_ahead_19 : decode cX6_ahead 19 = .ok (.ireturn, 1) := by decide +kernel
set_option maxRecDepth 20000 in
theorem ggX6_ahead_X6_in : GoodIn wsX6_ahead wsX6_in := goodIn_r _ [7] rfl (by decide +kernel)
set_option maxRecDepth 20000 in
theorem gX6_ahead_X6_in : GoodIn wsX6_ahead (va_wsS RX6 94 yX6_in wsX6_in) := goodIn_app (goodIn_of _ (by decide +kernel)) ggX6_ahead_X6_in
theorem inX6_ahead_X6 : ∀ w ∈ u_ws RX6 TX6 36, w ∈ wsX6_ahead := fun w h => List.mem_cons_of_mem _ (List.mem_append_right _ h)
set_option maxRecDepth 100000 in
set_option maxHeartbeats 4000000 in
theorem m_X6_ahead_out {l : Launch} {D : va_G} {E : Nat → ClassId} {T : Nat → Nat} (o : Nat) (u0 : Value) (u1 : Value) (u2 : Value) (u3 : Value) (u4 : Value) (u5 : Value) (u6 : Value) (u7 : Value) (u8 : Value) (u9 : Value) (u10 : Value) (u11 : Value) (u12 : Value) (u13 : Value) (u14 : Value) (u15 : Value) (u16 : Value) (u17 : Value) (u18 : Value) (u19 : Value) (u20 : Value) (u21 : Value) (u22 : Value) (u23 : Value) (u24 : Value) (u25 : Value) (u26 : Value) (u27 : Value) (u28 : Value) (u29 : Value) (u30 : Value) (u31 : Value) (u32 : Value) (u33 : Value) (u34 : Value) (u35 : Value) (v : Int32) (w : Int32) (ho : outB v 0 99 = true) : g_M l D E T yX6_ahead wsX6_ahead 1 25 [.ref o, .int v, .int w] [(o, .inr (6, [u0, u1, u2, u3, u4, u5, u6, u7, u8, u9, u10, u11, u12, u13, u14, u15, u16, u17, u18, u19, u20, u21, u22, u23, u24, u25, u26, u27, u28, u29, u30, u31, u32, u33, u34, u35]))] [(o, .inr (6, [.int 0, u1, u2, u3, u4, u5, u6, u7, u8, u9, u10, u11, u12, u13, u14, u15, u16, u17, u18, u19, u20, u21, u22, u23, u24, u25, u26, u27, u28, u29, u30, u31, u32, u33, u34, u35]))] (some (.int (-2))) := by
  refine g_M.of (cc := cX6_ahead) (nL := 3) (ret := (some .int)) (own := RX6) (lv := [(0, .ref o), (1, .int v), (2, .int w)]) (by decide) rfl rfl (Nat.le_of_ble_eq_true rfl) rfl ?_
  intro p e R s m args below meth c A Q H locs ls hR hQ hc hr hw hl
  have hx := hc.1
  have hb := hc.2.1
  have hts := hc.2.2.2.1
  have hown := hc.2.2.2.2.1
  refine lv_aload_n hx hb dX6_ahead_0 rfl (lv_at hl 0 rfl) ?_
  refine lv_iconst (v := 0) hx hb dX6_ahead_1 (by decide) ?_
  refine g_put (TT := TX6) hc hw inX6_ahead_X6 tyX6 tyX6_ok nmX6 0 0 1 rfl rfl (by decide) rfl rfl rfl rfl (Nat.le_of_ble_eq_true rfl) dX6_ahead_2 (fun H locs hw => ?_)
  have hw : g_W D A s [(o, .inr (6, [.int 0, u1, u2, u3, u4, u5, u6, u7, u8, u9, u10, u11, u12, u13, u14, u15, u16, u17, u18, u19, u20, u21, u22, u23, u24, u25, u26, u27, u28, u29, u30, u31, u32, u33, u34, u35]))] H locs := hw
  refine lv_iload_n hx hb dX6_ahead_5 rfl (lv_at hl 1 rfl) ?_
  refine lv_i2l hx hb dX6_ahead_6 rfl ?_
  refine lv_lconst (v := 0) hx hb dX6_ahead_7 (by decide) ?_
  refine lv_ldc2 (v := 99) hx hb hown (hts _ (List.mem_of_getElem? (i := 2) rfl)) dX6_ahead_8 ?_
  refine g_cS (As := [.long v.toInt64, .long 0, .long 99]) (n := 3) (rest := []) (wc := []) (w1 := []) (bytes := cX6_in) (maxL := 6) (ret := (some .boolean)) hc hw hl.1 (m_X6_in (l := l) (D := D) (E := E) (T := T) v.toInt64 0 99) gX6_ahead_X6_in rfl (by decide +kernel) (by rw [hR]; exact ⟨Nat.le_of_ble_eq_true rfl, Nat.le_of_ble_eq_true rfl⟩) [] (by decide) rfl [] rfl rfl rfl rfl (Nat.le_of_ble_eq_true rfl) dX6_ahead_11 ⟨Nat.zero_le _, Nat.zero_le _⟩ (fun H locs hw => ?_)
  have hw : g_W D A s [(o, .inr (6, [.int 0, u1, u2, u3, u4, u5, u6, u7, u8, u9, u10, u11, u12, u13, u14, u15, u16, u17, u18, u19, u20, u21, u22, u23, u24, u25, u26, u27, u28, u29, u30, u31, u32, u33, u34, u35]))] H locs := hw
  refine W.eq (congrArg (fun z => F0 m 14 ls (.int z :: [])) (show (b2i (inL v.toInt64 0 99) : Int32) = 0 from (congrArg b2i (in_o (a := 0) (b := 99) ho (by decide) (by decide))))) ?_
  refine lv_if_ne (tgt := 20) hx hb dX6_ahead_14 (by decide) (fun c_14 => absurd c_14 (by decide)) (fun c_14 => ?_)
  refine lv_bipush (v := (-2)) hx hb dX6_ahead_17 (by decide) ?_
  exact g_iret hQ hc hw hr rfl rfl dX6_ahead_19

theorem dX6_ahead_20 : decode cX6_ahead 20 = .ok (.iload_n 2, 1) := by decide +kernel
theorem dX6_ahead_21 : decode cX6_ahead 21 = .ok (.invokestatic 213, 3) := by decide +kernel
theorem dX6_ahead_24 : decode cX6_ahead 24 = .ok (.ifCond .eq 5, 3) := by decide +kernel
theorem dX6_ahead_27 : decode cX6_ahead 27 = .ok (.iconst (-1), 1) := by decide +kernel
theorem dX6_ahead_28 : decode cX6_ahead 28 = .ok (.ireturn, 1) := by decide +kernel
set_option maxRecDepth 20000 in
theorem ggX6_ahead_X6_noWheel : GoodIn wsX6_ahead wsX6_noWheel := goodIn_r _ [10, 11, 4, 5, 6, 7] rfl (by decide +kernel)
set_option maxRecDepth 20000 in
theorem gX6_ahead_X6_noWheel : GoodIn wsX6_ahead (va_wsS RX6 213 yX6_noWheel wsX6_noWheel) := goodIn_app (goodIn_of _ (by decide +kernel)) ggX6_ahead_X6_noWheel
set_option maxRecDepth 100000 in
set_option maxHeartbeats 4000000 in
theorem m_X6_ahead_wheel {l : Launch} {D : va_G} {E : Nat → ClassId} {T : Nat → Nat} (o : Nat) (n : Nat) (u0 : Value) (u1 : Value) (u2 : Value) (u3 : Value) (u4 : Value) (u5 : Value) (u6 : Value) (u7 : Value) (u8 : Value) (u9 : Value) (u10 : Value) (u11 : Value) (u12 : Value) (u13 : Value) (u14 : Value) (u15 : Value) (u16 : Value) (u17 : Value) (u18 : Value) (u19 : Value) (u20 : Value) (u21 : Value) (u22 : Value) (u23 : Value) (u24 : Value) (u25 : Value) (u26 : Value) (u27 : Value) (u28 : Value) (u29 : Value) (u30 : Value) (u31 : Value) (u32 : Value) (u33 : Value) (u34 : Value) (u35 : Value) (w : Int32) (hn : n ≤ 99) (ho : outB w 0 3 = true) : g_M l D E T yX6_ahead wsX6_ahead 2 45 [.ref o, .int (nI n), .int w] [(o, .inr (6, [u0, u1, u2, u3, u4, u5, u6, u7, u8, u9, u10, u11, u12, u13, u14, u15, u16, u17, u18, u19, u20, u21, u22, u23, u24, u25, u26, u27, u28, u29, u30, u31, u32, u33, u34, u35]))] [(o, .inr (6, [.int 0, u1, u2, u3, u4, u5, u6, u7, u8, u9, u10, u11, u12, u13, u14, u15, u16, u17, u18, u19, u20, u21, u22, u23, u24, u25, u26, u27, u28, u29, u30, u31, u32, u33, u34, u35]))] (some (.int (-1))) := by
  refine g_M.of (cc := cX6_ahead) (nL := 3) (ret := (some .int)) (own := RX6) (lv := [(0, .ref o), (1, .int (nI n)), (2, .int w)]) (by decide) rfl rfl (Nat.le_of_ble_eq_true rfl) rfl ?_
  intro p e R s m args below meth c A Q H locs ls hR hQ hc hr hw hl
  have hx := hc.1
  have hb := hc.2.1
  have hts := hc.2.2.2.1
  have hown := hc.2.2.2.2.1
  refine lv_aload_n hx hb dX6_ahead_0 rfl (lv_at hl 0 rfl) ?_
  refine lv_iconst (v := 0) hx hb dX6_ahead_1 (by decide) ?_
  refine g_put (TT := TX6) hc hw inX6_ahead_X6 tyX6 tyX6_ok nmX6 0 0 1 rfl rfl (by decide) rfl rfl rfl rfl (Nat.le_of_ble_eq_true rfl) dX6_ahead_2 (fun H locs hw => ?_)
  have hw : g_W D A s [(o, .inr (6, [.int 0, u1, u2, u3, u4, u5, u6, u7, u8, u9, u10, u11, u12, u13, u14, u15, u16, u17, u18, u19, u20, u21, u22, u23, u24, u25, u26, u27, u28, u29, u30, u31, u32, u33, u34, u35]))] H locs := hw
  refine lv_iload_n hx hb dX6_ahead_5 rfl (lv_at hl 1 rfl) ?_
  refine lv_i2l hx hb dX6_ahead_6 rfl ?_
  refine lv_lconst (v := 0) hx hb dX6_ahead_7 (by decide) ?_
  refine lv_ldc2 (v := 99) hx hb hown (hts _ (List.mem_of_getElem? (i := 2) rfl)) dX6_ahead_8 ?_
  refine g_cS (As := [.long ((nI n).toInt64), .long 0, .long 99]) (n := 3) (rest := []) (wc := []) (w1 := []) (bytes := cX6_in) (maxL := 6) (ret := (some .boolean)) hc hw hl.1 (m_X6_in (l := l) (D := D) (E := E) (T := T) ((nI n).toInt64) 0 99) gX6_ahead_X6_in rfl (by decide +kernel) (by rw [hR]; exact ⟨Nat.le_of_ble_eq_true rfl, Nat.le_of_ble_eq_true rfl⟩) [] (by decide) rfl [] rfl rfl rfl rfl (Nat.le_of_ble_eq_true rfl) dX6_ahead_11 ⟨Nat.zero_le _, Nat.zero_le _⟩ (fun H locs hw => ?_)
  have hw : g_W D A s [(o, .inr (6, [.int 0, u1, u2, u3, u4, u5, u6, u7, u8, u9, u10, u11, u12, u13, u14, u15, u16, u17, u18, u19, u20, u21, u22, u23, u24, u25, u26, u27, u28, u29, u30, u31, u32, u33, u34, u35]))] H locs := hw
  refine W.eq (congrArg (fun z => F0 m 14 ls (.int z :: [])) (show (b2i (inL ((nI n).toInt64) 0 99) : Int32) = 1 from (congrArg b2i (in_i (out_nf (n := n) (a := 0) (b := 99) (by omega) hn (by decide)) (by decide) (by decide))))) ?_
  refine lv_if_ne (tgt := 20) hx hb dX6_ahead_14 (by decide) (fun c_14 => ?_) (fun c_14 => absurd c_14 (by decide))
  refine lv_iload_n hx hb dX6_ahead_20 rfl (lv_at hl 2 rfl) ?_
  refine g_cS (As := [.int w]) (n := 1) (rest := []) (wc := []) (w1 := []) (bytes := cX6_noWheel) (maxL := 1) (ret := (some .boolean)) hc hw hl.1 (m_X6_noWheel (l := l) (D := D) (E := E) (T := T) w) gX6_ahead_X6_noWheel rfl (by decide +kernel) (by rw [hR]; exact ⟨Nat.le_of_ble_eq_true rfl, Nat.le_of_ble_eq_true rfl⟩) [] (by decide) rfl [] rfl rfl rfl rfl (Nat.le_of_ble_eq_true rfl) dX6_ahead_21 ⟨Nat.zero_le _, Nat.zero_le _⟩ (fun H locs hw => ?_)
  have hw : g_W D A s [(o, .inr (6, [.int 0, u1, u2, u3, u4, u5, u6, u7, u8, u9, u10, u11, u12, u13, u14, u15, u16, u17, u18, u19, u20, u21, u22, u23, u24, u25, u26, u27, u28, u29, u30, u31, u32, u33, u34, u35]))] H locs := hw
  refine W.eq (congrArg (fun z => F0 m 24 ls (.int z :: [])) (show (b2i (outB w 0 3) : Int32) = 1 from (congrArg b2i ho))) ?_
  refine lv_if_eq (tgt := 29) hx hb dX6_ahead_24 (by decide) (fun c_24 => absurd c_24 (by decide)) (fun c_24 => ?_)
  refine lv_iconst (v := (-1)) hx hb dX6_ahead_27 (by decide) ?_
  exact g_iret hQ hc hw hr rfl rfl dX6_ahead_28

theorem dX6_ahead_29 : decode cX6_ahead 29 = .ok (.aload_n 0, 1) := by decide +kernel
theorem dX6_ahead_30 : decode cX6_ahead 30 = .ok (.iload_n 1, 1) := by decide +kernel
theorem dX6_ahead_31 : decode cX6_ahead 31 = .ok (.invokevirtual 251, 3) := by decide +kernel
theorem dX6_ahead_34 : decode cX6_ahead 34 = .ok (.aload_n 0, 1) := by decide +kernel
theorem dX6_ahead_35 : decode cX6_ahead 35 = .ok (.getfield 35, 3) := by decide +kernel
theorem dX6_ahead_38 : decode cX6_ahead 38 = .ok (.iload_n 2, 1) := by decide +kernel
theorem dX6_ahead_39 : decode cX6_ahead 39 = .ok (.faload, 1) := by decide +kernel
theorem dX6_ahead_40 : decode cX6_ahead 40 = .ok (.invokestatic 216, 3) := by decide +kernel
theorem dX6_ahead_43 : decode cX6_ahead 43 = .ok (.ireturn, 1) := by decide +kernel
set_option maxRecDepth 20000 in
theorem ggX6_ahead_X6_tryTicks : GoodIn wsX6_ahead wsX6_tryTicks := goodIn_r _ [15, 16, 3, 17, 18, 19, 6, 20, 21, 22, 23, 24, 25, 26, 27, 28, 29, 30, 31, 32, 33, 34, 35, 36, 37, 38, 39, 40, 41, 42, 43, 44, 45, 46, 47, 48, 49, 50, 51, 52, 53, 54, 55, 56, 57, 58, 59, 60, 61, 62, 63, 64, 65, 66, 67, 68, 69, 70, 71, 72, 73, 74, 75, 76, 77, 78, 79, 80, 81, 82, 83, 84, 85, 86, 87, 88, 89, 90, 91, 92, 93, 94, 95, 96, 97, 98, 99, 100, 101, 114, 115, 116, 117, 118, 119, 120, 121, 122, 123, 124, 125, 126, 127, 128, 129, 130, 131, 132, 133, 134, 135, 136, 137, 138, 139, 140, 141, 142, 143, 144, 145, 146, 147, 148, 149] rfl (by decide +kernel)
set_option maxRecDepth 20000 in
theorem gX6_ahead_X6_tryTicks : GoodIn wsX6_ahead (wsV RX6 251 RX6 yX6_tryTicks wsX6_tryTicks) := goodIn_app (goodIn_of _ (by decide +kernel)) ggX6_ahead_X6_tryTicks
set_option maxRecDepth 20000 in
theorem ggX6_ahead_Jxf58ca_floatToIntBits_5c35a : GoodIn wsX6_ahead wsJxf58ca_floatToIntBits_5c35a := goodIn_r _ [105, 106, 107, 108, 109, 110, 111, 112, 104, 113] rfl (by decide +kernel)
set_option maxRecDepth 20000 in
theorem gX6_ahead_Jxf58ca_floatToIntBits_5c35a : GoodIn wsX6_ahead (va_wsS RX6 216 yJxf58ca_floatToIntBits_5c35a wsJxf58ca_floatToIntBits_5c35a) := goodIn_app (goodIn_of _ (by decide +kernel)) ggX6_ahead_Jxf58ca_floatToIntBits_5c35a
set_option maxRecDepth 100000 in
set_option maxHeartbeats 4000000 in
theorem m_X6_ahead {l : Launch} {D : va_G} {E : Nat → ClassId} {T : Nat → Nat} (o : Nat) (xa : Nat) (fa : Nat) (wa : Nat) (la : Nat) (ta : Nat) (ma : Nat) (sa : Nat) (nw : Nat) (nf : Nat) (pa : Nat) (va : Nat) (ua : Nat) (ya : Nat) (B : Nat) (u0 : Value) (u1 : Value) (u2 : Value) (u7 : Value) (u8 : Value) (u9 : Value) (u10 : Value) (u15 : Value) (u16 : Value) (u17 : Value) (u18 : Value) (u19 : Value) (u20 : Value) (u21 : Value) (u22 : Value) (u23 : Value) (u24 : Value) (u25 : Value) (u26 : Value) (u34 : Value) (fl : Nat → Int32) (S : TS) (U : TS) (K : RJ) (n : Nat) (k : Nat) (hok : OkS B S) (hB : B + 300 < 2 ^ 31) (hnw : nw ≤ 6) (hnf : nf ≤ 6) (hn : n ≤ 99) (hk : k ≤ 3) : g_M l D E T yX6_ahead wsX6_ahead 8 194 [.ref o, .int (nI n), .int (nI k)] [(o, .inr (6, [u0, u1, u2, .ref xa, .int (nI nw), .int (nI nf), .ref fa, u7, u8, u9, u10, .ref pa, .ref va, .ref ua, .ref ya, u15, u16, u17, u18, u19, u20, u21, u22, u23, u24, u25, u26, .ref wa, .ref la, .ref ta, .int (rS K), .int (rN K), .float (rH K), .ref ma, u34, .ref sa])), (xa, .inl (E 0, 12, .inl (g_tv 0))), (fa, .inl (E 0, 18, .inl fl)), (wa, .inl (E 0, 3, .inl (rW K))), (la, .inl (E 1, 4, .inr (.inr (.inl (rP K))))), (ta, .inl (E 1, 4, .inr (.inr (.inl (rT K))))), (ma, .inl (E 1, 3, .inr (.inr (.inl (rM K))))), (sa, .inl (E 0, 9, .inl (g_tv 1))), (pa, .inl (E 0, 29, .inl (pgF S))), (va, .inl (E 1, 5, .inr (.inr (.inl (fl5 S))))), (ua, .inl (E 0, 29, .inl (pgF U))), (ya, .inl (E 1, 5, .inr (.inr (.inl (fl5 U)))))] [(o, .inr (6, [.int 0, u1, u2, .ref xa, .int (nI nw), .int (nI nf), .ref fa, u7, u8, u9, u10, .ref pa, .ref va, .ref ua, .ref ya, u15, u16, u17, u18, u19, u20, u21, u22, u23, u24, u25, u26, .ref wa, .ref la, .ref ta, .int (rS (rjN nw nf fl (x3F 0 0 0) S K n)), .int (rN (rjN nw nf fl (x3F 0 0 0) S K n)), .float (rH (rjN nw nf fl (x3F 0 0 0) S K n)), .ref ma, u34, .ref sa])), (xa, .inl (E 0, 12, .inl (g_tv 0))), (fa, .inl (E 0, 18, .inl fl)), (wa, .inl (E 0, 3, .inl (rW (rjN nw nf fl (x3F 0 0 0) S K n)))), (la, .inl (E 1, 4, .inr (.inr (.inl (rP (rjN nw nf fl (x3F 0 0 0) S K n)))))), (ta, .inl (E 1, 4, .inr (.inr (.inl (rT (rjN nw nf fl (x3F 0 0 0) S K n)))))), (ma, .inl (E 1, 3, .inr (.inr (.inl (rM (rjN nw nf fl (x3F 0 0 0) S K n)))))), (sa, .inl (E 0, 9, .inl (g_tv 1))), (pa, .inl (E 0, 29, .inl (pgF S))), (va, .inl (E 1, 5, .inr (.inr (.inl (fl5 S))))), (ua, .inl (E 0, 29, .inl (pgF (tkN nw nf fl (x3F 0 0 0) S n)))), (ya, .inl (E 1, 5, .inr (.inr (.inl (fl5 (tkN nw nf fl (x3F 0 0 0) S n))))))] (some (.int (bitI (sF (tkN nw nf fl (x3F 0 0 0) S n) k)))) := by
  refine g_M.of (cc := cX6_ahead) (nL := 3) (ret := (some .int)) (own := RX6) (lv := [(0, .ref o), (1, .int (nI n)), (2, .int (nI k))]) (by decide) rfl rfl (Nat.le_of_ble_eq_true rfl) rfl ?_
  intro p e R s m args below meth c A Q H locs ls hR hQ hc hr hw hl
  have hx := hc.1
  have hb := hc.2.1
  have hts := hc.2.2.2.1
  have hown := hc.2.2.2.2.1
  refine lv_aload_n hx hb dX6_ahead_0 rfl (lv_at hl 0 rfl) ?_
  refine lv_iconst (v := 0) hx hb dX6_ahead_1 (by decide) ?_
  refine g_put (TT := TX6) hc hw inX6_ahead_X6 tyX6 tyX6_ok nmX6 0 0 1 rfl rfl (by decide) rfl rfl rfl rfl (Nat.le_of_ble_eq_true rfl) dX6_ahead_2 (fun H locs hw => ?_)
  have hw : g_W D A s [(o, .inr (6, [.int 0, u1, u2, .ref xa, .int (nI nw), .int (nI nf), .ref fa, u7, u8, u9, u10, .ref pa, .ref va, .ref ua, .ref ya, u15, u16, u17, u18, u19, u20, u21, u22, u23, u24, u25, u26, .ref wa, .ref la, .ref ta, .int (rS K), .int (rN K), .float (rH K), .ref ma, u34, .ref sa])), (xa, .inl (E 0, 12, .inl (g_tv 0))), (fa, .inl (E 0, 18, .inl fl)), (wa, .inl (E 0, 3, .inl (rW K))), (la, .inl (E 1, 4, .inr (.inr (.inl (rP K))))), (ta, .inl (E 1, 4, .inr (.inr (.inl (rT K))))), (ma, .inl (E 1, 3, .inr (.inr (.inl (rM K))))), (sa, .inl (E 0, 9, .inl (g_tv 1))), (pa, .inl (E 0, 29, .inl (pgF S))), (va, .inl (E 1, 5, .inr (.inr (.inl (fl5 S))))), (ua, .inl (E 0, 29, .inl (pgF U))), (ya, .inl (E 1, 5, .inr (.inr (.inl (fl5 U)))))] H locs := hw
  refine lv_iload_n hx hb dX6_ahead_5 rfl (lv_at hl 1 rfl) ?_
  refine lv_i2l hx hb dX6_ahead_6 rfl ?_
  refine lv_lconst (v := 0) hx hb dX6_ahead_7 (by decide) ?_
  refine lv_ldc2 (v := 99) hx hb hown (hts _ (List.mem_of_getElem? (i := 2) rfl)) dX6_ahead_8 ?_
  refine g_cS (As := [.long ((nI n).toInt64), .long 0, .long 99]) (n := 3) (rest := []) (wc := []) (w1 := []) (bytes := cX6_in) (maxL := 6) (ret := (some .boolean)) hc hw hl.1 (m_X6_in (l := l) (D := D) (E := E) (T := T) ((nI n).toInt64) 0 99) gX6_ahead_X6_in rfl (by decide +kernel) (by rw [hR]; exact ⟨Nat.le_of_ble_eq_true rfl, Nat.le_of_ble_eq_true rfl⟩) [] (by decide) rfl [] rfl rfl rfl rfl (Nat.le_of_ble_eq_true rfl) dX6_ahead_11 ⟨Nat.zero_le _, Nat.zero_le _⟩ (fun H locs hw => ?_)
  have hw : g_W D A s [(o, .inr (6, [.int 0, u1, u2, .ref xa, .int (nI nw), .int (nI nf), .ref fa, u7, u8, u9, u10, .ref pa, .ref va, .ref ua, .ref ya, u15, u16, u17, u18, u19, u20, u21, u22, u23, u24, u25, u26, .ref wa, .ref la, .ref ta, .int (rS K), .int (rN K), .float (rH K), .ref ma, u34, .ref sa])), (xa, .inl (E 0, 12, .inl (g_tv 0))), (fa, .inl (E 0, 18, .inl fl)), (wa, .inl (E 0, 3, .inl (rW K))), (la, .inl (E 1, 4, .inr (.inr (.inl (rP K))))), (ta, .inl (E 1, 4, .inr (.inr (.inl (rT K))))), (ma, .inl (E 1, 3, .inr (.inr (.inl (rM K))))), (sa, .inl (E 0, 9, .inl (g_tv 1))), (pa, .inl (E 0, 29, .inl (pgF S))), (va, .inl (E 1, 5, .inr (.inr (.inl (fl5 S))))), (ua, .inl (E 0, 29, .inl (pgF U))), (ya, .inl (E 1, 5, .inr (.inr (.inl (fl5 U)))))] H locs := hw
  refine W.eq (congrArg (fun z => F0 m 14 ls (.int z :: [])) (show (b2i (inL ((nI n).toInt64) 0 99) : Int32) = 1 from (congrArg b2i (in_i (out_nf (n := n) (a := 0) (b := 99) (by omega) hn (by decide)) (by decide) (by decide))))) ?_
  refine lv_if_ne (tgt := 20) hx hb dX6_ahead_14 (by decide) (fun c_14 => ?_) (fun c_14 => absurd c_14 (by decide))
  refine lv_iload_n hx hb dX6_ahead_20 rfl (lv_at hl 2 rfl) ?_
  refine g_cS (As := [.int (nI k)]) (n := 1) (rest := []) (wc := []) (w1 := []) (bytes := cX6_noWheel) (maxL := 1) (ret := (some .boolean)) hc hw hl.1 (m_X6_noWheel (l := l) (D := D) (E := E) (T := T) (nI k)) gX6_ahead_X6_noWheel rfl (by decide +kernel) (by rw [hR]; exact ⟨Nat.le_of_ble_eq_true rfl, Nat.le_of_ble_eq_true rfl⟩) [] (by decide) rfl [] rfl rfl rfl rfl (Nat.le_of_ble_eq_true rfl) dX6_ahead_21 ⟨Nat.zero_le _, Nat.zero_le _⟩ (fun H locs hw => ?_)
  have hw : g_W D A s [(o, .inr (6, [.int 0, u1, u2, .ref xa, .int (nI nw), .int (nI nf), .ref fa, u7, u8, u9, u10, .ref pa, .ref va, .ref ua, .ref ya, u15, u16, u17, u18, u19, u20, u21, u22, u23, u24, u25, u26, .ref wa, .ref la, .ref ta, .int (rS K), .int (rN K), .float (rH K), .ref ma, u34, .ref sa])), (xa, .inl (E 0, 12, .inl (g_tv 0))), (fa, .inl (E 0, 18, .inl fl)), (wa, .inl (E 0, 3, .inl (rW K))), (la, .inl (E 1, 4, .inr (.inr (.inl (rP K))))), (ta, .inl (E 1, 4, .inr (.inr (.inl (rT K))))), (ma, .inl (E 1, 3, .inr (.inr (.inl (rM K))))), (sa, .inl (E 0, 9, .inl (g_tv 1))), (pa, .inl (E 0, 29, .inl (pgF S))), (va, .inl (E 1, 5, .inr (.inr (.inl (fl5 S))))), (ua, .inl (E 0, 29, .inl (pgF U))), (ya, .inl (E 1, 5, .inr (.inr (.inl (fl5 U)))))] H locs := hw
  refine W.eq (congrArg (fun z => F0 m 24 ls (.int z :: [])) (show (b2i (outB (nI k) 0 3) : Int32) = 0 from (congrArg b2i (out_nf (n := k) (a := 0) (b := 3) (by omega) hk (by decide))))) ?_
  refine lv_if_eq (tgt := 29) hx hb dX6_ahead_24 (by decide) (fun c_24 => ?_) (fun c_24 => absurd c_24 (by decide))
  refine lv_aload_n hx hb dX6_ahead_29 rfl (lv_at hl 0 rfl) ?_
  refine lv_iload_n hx hb dX6_ahead_30 rfl (lv_at hl 1 rfl) ?_
  refine g_cV (As := [.int (nI n)]) (n := 1) (rest := []) (wc := [(o, .inr (6, [.int 0, u1, u2, .ref xa, .int (nI nw), .int (nI nf), .ref fa, u7, u8, u9, u10, .ref pa, .ref va, .ref ua, .ref ya, u15, u16, u17, u18, u19, u20, u21, u22, u23, u24, u25, u26, .ref wa, .ref la, .ref ta, .int (rS K), .int (rN K), .float (rH K), .ref ma, u34, .ref sa])), (xa, .inl (E 0, 12, .inl (g_tv 0))), (fa, .inl (E 0, 18, .inl fl)), (wa, .inl (E 0, 3, .inl (rW K))), (la, .inl (E 1, 4, .inr (.inr (.inl (rP K))))), (ta, .inl (E 1, 4, .inr (.inr (.inl (rT K))))), (ma, .inl (E 1, 3, .inr (.inr (.inl (rM K))))), (sa, .inl (E 0, 9, .inl (g_tv 1))), (pa, .inl (E 0, 29, .inl (pgF S))), (va, .inl (E 1, 5, .inr (.inr (.inl (fl5 S))))), (ua, .inl (E 0, 29, .inl (pgF U))), (ya, .inl (E 1, 5, .inr (.inr (.inl (fl5 U)))))]) (w1 := [(o, .inr (6, [.int 0, u1, u2, .ref xa, .int (nI nw), .int (nI nf), .ref fa, u7, u8, u9, u10, .ref pa, .ref va, .ref ua, .ref ya, u15, u16, u17, u18, u19, u20, u21, u22, u23, u24, u25, u26, .ref wa, .ref la, .ref ta, .int (rS (rjN nw nf fl (x3F 0 0 0) S K n)), .int (rN (rjN nw nf fl (x3F 0 0 0) S K n)), .float (rH (rjN nw nf fl (x3F 0 0 0) S K n)), .ref ma, u34, .ref sa])), (xa, .inl (E 0, 12, .inl (g_tv 0))), (fa, .inl (E 0, 18, .inl fl)), (wa, .inl (E 0, 3, .inl (rW (rjN nw nf fl (x3F 0 0 0) S K n)))), (la, .inl (E 1, 4, .inr (.inr (.inl (rP (rjN nw nf fl (x3F 0 0 0) S K n)))))), (ta, .inl (E 1, 4, .inr (.inr (.inl (rT (rjN nw nf fl (x3F 0 0 0) S K n)))))), (ma, .inl (E 1, 3, .inr (.inr (.inl (rM (rjN nw nf fl (x3F 0 0 0) S K n)))))), (sa, .inl (E 0, 9, .inl (g_tv 1))), (pa, .inl (E 0, 29, .inl (pgF S))), (va, .inl (E 1, 5, .inr (.inr (.inl (fl5 S))))), (ua, .inl (E 0, 29, .inl (pgF (tkN nw nf fl (x3F 0 0 0) S n)))), (ya, .inl (E 1, 5, .inr (.inr (.inl (fl5 (tkN nw nf fl (x3F 0 0 0) S n))))))]) (bytes := cX6_tryTicks) (maxL := 2) (ret := none) hc hw hl.1 (m_X6_tryTicks (l := l) (D := D) (E := E) (T := T) o xa fa wa la ta ma sa nw nf pa va ua ya B (.int 0) u1 u2 u7 u8 u9 u10 u15 u16 u17 u18 u19 u20 u21 u22 u23 u24 u25 u26 u34 fl S U K n hok (by omega) (by first | assumption | omega | decide) (by first | assumption | omega | decide)) gX6_ahead_X6_tryTicks rfl (by decide +kernel) (by rw [hR]; exact ⟨Nat.le_of_ble_eq_true rfl, Nat.le_of_ble_eq_true rfl⟩) [0, 1, 2, 3, 4, 5, 6, 7, 8, 9, 10, 11] 0 6 rfl rfl (by decide) rfl [o, xa, fa, wa, la, ta, ma, sa, pa, va, ua, ya] rfl rfl rfl rfl (Nat.le_of_ble_eq_true rfl) dX6_ahead_31 ⟨Nat.zero_le _, Nat.zero_le _⟩ (fun H locs hw => ?_)
  have hw : g_W D A s [(o, .inr (6, [.int 0, u1, u2, .ref xa, .int (nI nw), .int (nI nf), .ref fa, u7, u8, u9, u10, .ref pa, .ref va, .ref ua, .ref ya, u15, u16, u17, u18, u19, u20, u21, u22, u23, u24, u25, u26, .ref wa, .ref la, .ref ta, .int (rS (rjN nw nf fl (x3F 0 0 0) S K n)), .int (rN (rjN nw nf fl (x3F 0 0 0) S K n)), .float (rH (rjN nw nf fl (x3F 0 0 0) S K n)), .ref ma, u34, .ref sa])), (xa, .inl (E 0, 12, .inl (g_tv 0))), (fa, .inl (E 0, 18, .inl fl)), (wa, .inl (E 0, 3, .inl (rW (rjN nw nf fl (x3F 0 0 0) S K n)))), (la, .inl (E 1, 4, .inr (.inr (.inl (rP (rjN nw nf fl (x3F 0 0 0) S K n)))))), (ta, .inl (E 1, 4, .inr (.inr (.inl (rT (rjN nw nf fl (x3F 0 0 0) S K n)))))), (ma, .inl (E 1, 3, .inr (.inr (.inl (rM (rjN nw nf fl (x3F 0 0 0) S K n)))))), (sa, .inl (E 0, 9, .inl (g_tv 1))), (pa, .inl (E 0, 29, .inl (pgF S))), (va, .inl (E 1, 5, .inr (.inr (.inl (fl5 S))))), (ua, .inl (E 0, 29, .inl (pgF (tkN nw nf fl (x3F 0 0 0) S n)))), (ya, .inl (E 1, 5, .inr (.inr (.inl (fl5 (tkN nw nf fl (x3F 0 0 0) S n))))))] H locs := hw
  refine lv_aload_n hx hb dX6_ahead_34 rfl (lv_at hl 0 rfl) ?_
  refine g_get (TT := TX6) hc hw inX6_ahead_X6 0 14 3 rfl rfl (by decide) rfl rfl dX6_ahead_35 ?_
  refine lv_iload_n hx hb dX6_ahead_38 rfl (lv_at hl 2 rfl) ?_
  refine g_fld hc hw 11 k rfl rfl (by omega) (by decide) dX6_ahead_39 ?_
  refine W.eq (congrArg (fun z => F0 m 40 ls (.float z :: [])) (show ((fl5 (tkN nw nf fl (x3F 0 0 0) S n)) k : UInt32) = sF (tkN nw nf fl (x3F 0 0 0) S n) k from (fl5_lt _ (by omega)))) ?_
  refine g_cS (As := [.float (sF (tkN nw nf fl (x3F 0 0 0) S n) k)]) (n := 1) (rest := []) (wc := []) (w1 := []) (bytes := cJxf58ca_floatToIntBits_5c35a) (maxL := 1) (ret := (some .int)) hc hw hl.1 (m_Jxf58ca_floatToIntBits_5c35a (l := l) (D := D) (E := E) (T := T) (sF (tkN nw nf fl (x3F 0 0 0) S n) k) (g_mgW ((hok.tn nw nf fl (x3F 0 0 0) n).f k (by omega)) (by decide))) gX6_ahead_Jxf58ca_floatToIntBits_5c35a rfl (by decide +kernel) (by rw [hR]; exact ⟨Nat.le_of_ble_eq_true rfl, Nat.le_of_ble_eq_true rfl⟩) [] (by decide) rfl [] rfl rfl rfl rfl (Nat.le_of_ble_eq_true rfl) dX6_ahead_40 ⟨Nat.zero_le _, Nat.zero_le _⟩ (fun H locs hw => ?_)
  have hw : g_W D A s [(o, .inr (6, [.int 0, u1, u2, .ref xa, .int (nI nw), .int (nI nf), .ref fa, u7, u8, u9, u10, .ref pa, .ref va, .ref ua, .ref ya, u15, u16, u17, u18, u19, u20, u21, u22, u23, u24, u25, u26, .ref wa, .ref la, .ref ta, .int (rS (rjN nw nf fl (x3F 0 0 0) S K n)), .int (rN (rjN nw nf fl (x3F 0 0 0) S K n)), .float (rH (rjN nw nf fl (x3F 0 0 0) S K n)), .ref ma, u34, .ref sa])), (xa, .inl (E 0, 12, .inl (g_tv 0))), (fa, .inl (E 0, 18, .inl fl)), (wa, .inl (E 0, 3, .inl (rW (rjN nw nf fl (x3F 0 0 0) S K n)))), (la, .inl (E 1, 4, .inr (.inr (.inl (rP (rjN nw nf fl (x3F 0 0 0) S K n)))))), (ta, .inl (E 1, 4, .inr (.inr (.inl (rT (rjN nw nf fl (x3F 0 0 0) S K n)))))), (ma, .inl (E 1, 3, .inr (.inr (.inl (rM (rjN nw nf fl (x3F 0 0 0) S K n)))))), (sa, .inl (E 0, 9, .inl (g_tv 1))), (pa, .inl (E 0, 29, .inl (pgF S))), (va, .inl (E 1, 5, .inr (.inr (.inl (fl5 S))))), (ua, .inl (E 0, 29, .inl (pgF (tkN nw nf fl (x3F 0 0 0) S n)))), (ya, .inl (E 1, 5, .inr (.inr (.inl (fl5 (tkN nw nf fl (x3F 0 0 0) S n))))))] H locs := hw
  exact g_iret hQ hc hw hr rfl rfl dX6_ahead_43

theorem dX6_later_0 : decode cX6_later 0 = .ok (.aload_n 0, 1) := by decide +kernel
theorem dX6_later_1 : decode cX6_later 1 = .ok (.iconst 0, 1) := by decide +kernel
theorem dX6_later_2 : decode cX6_later 2 = .ok (.putfield 88, 3) := by decide +kernel
theorem dX6_later_5 : decode cX6_later 5 = .ok (.iload_n 1, 1) := by decide +kernel
theorem dX6_later_6 : decode cX6_later 6 = .ok (.i2l, 1) := by decide +kernel
theorem dX6_later_7 : decode cX6_later 7 = .ok (.lconst 0, 1) := by decide +kernel
theorem dX6_later_8 : decode cX6_later 8 = .ok (.ldc2_w 229, 3) := by decide +kernel
theorem dX6_later_11 : decode cX6_later 11 = .ok (.invokestatic 94, 3) := by decide +kernel
theorem dX6_later_14 : decode cX6_later 14 = .ok (.ifCond .eq 15, 3) := by decide +kernel
theorem dX6_later_29 : decode cX6_later 29 = .ok (.bipush (-2), 2) := by decide +kernel
theorem dX6_later_31 : decode cX6_later 31 = .ok (.ireturn, 1) := by decide +kernel
set_option maxRecDepth 20000 in
theorem ggX6_later_X6_in : GoodIn wsX6_later wsX6_in := goodIn_r _ [8] rfl (by decide +kernel)
set_option maxRecDepth 20000 in
theorem gX6_later_X6_in : GoodIn wsX6_later (va_wsS RX6 94 yX6_in wsX6_in) := goodIn_app (goodIn_of _ (by decide +kernel)) ggX6_later_X6_in
theorem inX6_later_X6 : ∀ w ∈ u_ws RX6 TX6 36, w ∈ wsX6_later := fun w h => List.mem_cons_of_mem _ (List.mem_append_right _ h)
set_option maxRecDepth 100000 in
set_option maxHeartbeats 4000000 in
theorem m_X6_later_out {l : Launch} {D : va_G} {E : Nat → ClassId} {T : Nat → Nat} (o : Nat) (u0 : Value) (u1 : Value) (u2 : Value) (u3 : Value) (u4 : Value) (u5 : Value) (u6 : Value) (u7 : Value) (u8 : Value) (u9 : Value) (u10 : Value) (u11 : Value) (u12 : Value) (u13 : Value) (u14 : Value) (u15 : Value) (u16 : Value) (u17 : Value) (u18 : Value) (u19 : Value) (u20 : Value) (u21 : Value) (u22 : Value) (u23 : Value) (u24 : Value) (u25 : Value) (u26 : Value) (u27 : Value) (u28 : Value) (u29 : Value) (u30 : Value) (u31 : Value) (u32 : Value) (u33 : Value) (u34 : Value) (u35 : Value) (v : Int32) (w : Int32) (ho : outB v 0 99 = true) : g_M l D E T yX6_later wsX6_later 1 25 [.ref o, .int v, .int w] [(o, .inr (6, [u0, u1, u2, u3, u4, u5, u6, u7, u8, u9, u10, u11, u12, u13, u14, u15, u16, u17, u18, u19, u20, u21, u22, u23, u24, u25, u26, u27, u28, u29, u30, u31, u32, u33, u34, u35]))] [(o, .inr (6, [.int 0, u1, u2, u3, u4, u5, u6, u7, u8, u9, u10, u11, u12, u13, u14, u15, u16, u17, u18, u19, u20, u21, u22, u23, u24, u25, u26, u27, u28, u29, u30, u31, u32, u33, u34, u35]))] (some (.int (-2))) := by
  refine g_M.of (cc := cX6_later) (nL := 3) (ret := (some .int)) (own := RX6) (lv := [(0, .ref o), (1, .int v), (2, .int w)]) (by decide) rfl rfl (Nat.le_of_ble_eq_true rfl) rfl ?_
  intro p e R s m args below meth c A Q H locs ls hR hQ hc hr hw hl
  have hx := hc.1
  have hb := hc.2.1
  have hts := hc.2.2.2.1
  have hown := hc.2.2.2.2.1
  refine lv_aload_n hx hb dX6_later_0 rfl (lv_at hl 0 rfl) ?_
  refine lv_iconst (v := 0) hx hb dX6_later_1 (by decide) ?_
  refine g_put (TT := TX6) hc hw inX6_later_X6 tyX6 tyX6_ok nmX6 0 0 1 rfl rfl (by decide) rfl rfl rfl rfl (Nat.le_of_ble_eq_true rfl) dX6_later_2 (fun H locs hw => ?_)
  have hw : g_W D A s [(o, .inr (6, [.int 0, u1, u2, u3, u4, u5, u6, u7, u8, u9, u10, u11, u12, u13, u14, u15, u16, u17, u18, u19, u20, u21, u22, u23, u24, u25, u26, u27, u28, u29, u30, u31, u32, u33, u34, u35]))] H locs := hw
  refine lv_iload_n hx hb dX6_later_5 rfl (lv_at hl 1 rfl) ?_
  refine lv_i2l hx hb dX6_later_6 rfl ?_
  refine lv_lconst (v := 0) hx hb dX6_later_7 (by decide) ?_
  refine lv_ldc2 (v := 99) hx hb hown (hts _ (List.mem_of_getElem? (i := 2) rfl)) dX6_later_8 ?_
  refine g_cS (As := [.long v.toInt64, .long 0, .long 99]) (n := 3) (rest := []) (wc := []) (w1 := []) (bytes := cX6_in) (maxL := 6) (ret := (some .boolean)) hc hw hl.1 (m_X6_in (l := l) (D := D) (E := E) (T := T) v.toInt64 0 99) gX6_later_X6_in rfl (by decide +kernel) (by rw [hR]; exact ⟨Nat.le_of_ble_eq_true rfl, Nat.le_of_ble_eq_true rfl⟩) [] (by decide) rfl [] rfl rfl rfl rfl (Nat.le_of_ble_eq_true rfl) dX6_later_11 ⟨Nat.zero_le _, Nat.zero_le _⟩ (fun H locs hw => ?_)
  have hw : g_W D A s [(o, .inr (6, [.int 0, u1, u2, u3, u4, u5, u6, u7, u8, u9, u10, u11, u12, u13, u14, u15, u16, u17, u18, u19, u20, u21, u22, u23, u24, u25, u26, u27, u28, u29, u30, u31, u32, u33, u34, u35]))] H locs := hw
  refine W.eq (congrArg (fun z => F0 m 14 ls (.int z :: [])) (show (b2i (inL v.toInt64 0 99) : Int32) = 0 from (congrArg b2i (in_o (a := 0) (b := 99) ho (by decide) (by decide))))) ?_
  refine lv_if_eq (tgt := 29) hx hb dX6_later_14 (by decide) (fun c_14 => ?_) (fun c_14 => absurd c_14 (by decide))
  refine lv_bipush (v := (-2)) hx hb dX6_later_29 (by decide) ?_
  exact g_iret hQ hc hw hr rfl rfl dX6_later_31

theorem dX6_later_17 : decode cX6_later 17 = .ok (.iload_n 2, 1) := by decide +kernel
theorem dX6_later_18 : decode cX6_later 18 = .ok (.i2l, 1) := by decide +kernel
theorem dX6_later_19 : decode cX6_later 19 = .ok (.lconst 0, 1) := by decide +kernel
theorem dX6_later_20 : decode cX6_later 20 = .ok (.ldc2_w 255, 3) := by decide +kernel
theorem dX6_later_23 : decode cX6_later 23 = .ok (.invokestatic 94, 3) := by decide +kernel
theorem dX6_later_26 : decode cX6_later 26 = .ok (.ifCond .ne 6, 3) := by decide +kernel
set_option maxRecDepth 100000 in
set_option maxHeartbeats 4000000 in
theorem m_X6_later_what {l : Launch} {D : va_G} {E : Nat → ClassId} {T : Nat → Nat} (o : Nat) (n : Nat) (u0 : Value) (u1 : Value) (u2 : Value) (u3 : Value) (u4 : Value) (u5 : Value) (u6 : Value) (u7 : Value) (u8 : Value) (u9 : Value) (u10 : Value) (u11 : Value) (u12 : Value) (u13 : Value) (u14 : Value) (u15 : Value) (u16 : Value) (u17 : Value) (u18 : Value) (u19 : Value) (u20 : Value) (u21 : Value) (u22 : Value) (u23 : Value) (u24 : Value) (u25 : Value) (u26 : Value) (u27 : Value) (u28 : Value) (u29 : Value) (u30 : Value) (u31 : Value) (u32 : Value) (u33 : Value) (u34 : Value) (u35 : Value) (w : Int32) (hn : n ≤ 99) (ho : outB w 0 4 = true) : g_M l D E T yX6_later wsX6_later 1 25 [.ref o, .int (nI n), .int w] [(o, .inr (6, [u0, u1, u2, u3, u4, u5, u6, u7, u8, u9, u10, u11, u12, u13, u14, u15, u16, u17, u18, u19, u20, u21, u22, u23, u24, u25, u26, u27, u28, u29, u30, u31, u32, u33, u34, u35]))] [(o, .inr (6, [.int 0, u1, u2, u3, u4, u5, u6, u7, u8, u9, u10, u11, u12, u13, u14, u15, u16, u17, u18, u19, u20, u21, u22, u23, u24, u25, u26, u27, u28, u29, u30, u31, u32, u33, u34, u35]))] (some (.int (-2))) := by
  refine g_M.of (cc := cX6_later) (nL := 3) (ret := (some .int)) (own := RX6) (lv := [(0, .ref o), (1, .int (nI n)), (2, .int w)]) (by decide) rfl rfl (Nat.le_of_ble_eq_true rfl) rfl ?_
  intro p e R s m args below meth c A Q H locs ls hR hQ hc hr hw hl
  have hx := hc.1
  have hb := hc.2.1
  have hts := hc.2.2.2.1
  have hown := hc.2.2.2.2.1
  refine lv_aload_n hx hb dX6_later_0 rfl (lv_at hl 0 rfl) ?_
  refine lv_iconst (v := 0) hx hb dX6_later_1 (by decide) ?_
  refine g_put (TT := TX6) hc hw inX6_later_X6 tyX6 tyX6_ok nmX6 0 0 1 rfl rfl (by decide) rfl rfl rfl rfl (Nat.le_of_ble_eq_true rfl) dX6_later_2 (fun H locs hw => ?_)
  have hw : g_W D A s [(o, .inr (6, [.int 0, u1, u2, u3, u4, u5, u6, u7, u8, u9, u10, u11, u12, u13, u14, u15, u16, u17, u18, u19, u20, u21, u22, u23, u24, u25, u26, u27, u28, u29, u30, u31, u32, u33, u34, u35]))] H locs := hw
  refine lv_iload_n hx hb dX6_later_5 rfl (lv_at hl 1 rfl) ?_
  refine lv_i2l hx hb dX6_later_6 rfl ?_
  refine lv_lconst (v := 0) hx hb dX6_later_7 (by decide) ?_
  refine lv_ldc2 (v := 99) hx hb hown (hts _ (List.mem_of_getElem? (i := 2) rfl)) dX6_later_8 ?_
  refine g_cS (As := [.long ((nI n).toInt64), .long 0, .long 99]) (n := 3) (rest := []) (wc := []) (w1 := []) (bytes := cX6_in) (maxL := 6) (ret := (some .boolean)) hc hw hl.1 (m_X6_in (l := l) (D := D) (E := E) (T := T) ((nI n).toInt64) 0 99) gX6_later_X6_in rfl (by decide +kernel) (by rw [hR]; exact ⟨Nat.le_of_ble_eq_true rfl, Nat.le_of_ble_eq_true rfl⟩) [] (by decide) rfl [] rfl rfl rfl rfl (Nat.le_of_ble_eq_true rfl) dX6_later_11 ⟨Nat.zero_le _, Nat.zero_le _⟩ (fun H locs hw => ?_)
  have hw : g_W D A s [(o, .inr (6, [.int 0, u1, u2, u3, u4, u5, u6, u7, u8, u9, u10, u11, u12, u13, u14, u15, u16, u17, u18, u19, u20, u21, u22, u23, u24, u25, u26, u27, u28, u29, u30, u31, u32, u33, u34, u35]))] H locs := hw
  refine W.eq (congrArg (fun z => F0 m 14 ls (.int z :: [])) (show (b2i (inL ((nI n).toInt64) 0 99) : Int32) = 1 from (congrArg b2i (in_i (out_nf (n := n) (a := 0) (b := 99) (by omega) hn (by decide)) (by decide) (by decide))))) ?_
  refine lv_if_eq (tgt := 29) hx hb dX6_later_14 (by decide) (fun c_14 => absurd c_14 (by decide)) (fun c_14 => ?_)
  refine lv_iload_n hx hb dX6_later_17 rfl (lv_at hl 2 rfl) ?_
  refine lv_i2l hx hb dX6_later_18 rfl ?_
  refine lv_lconst (v := 0) hx hb dX6_later_19 (by decide) ?_
  refine lv_ldc2 (v := 4) hx hb hown (hts _ (List.mem_of_getElem? (i := 3) rfl)) dX6_later_20 ?_
  refine g_cS (As := [.long w.toInt64, .long 0, .long 4]) (n := 3) (rest := []) (wc := []) (w1 := []) (bytes := cX6_in) (maxL := 6) (ret := (some .boolean)) hc hw hl.1 (m_X6_in (l := l) (D := D) (E := E) (T := T) w.toInt64 0 4) gX6_later_X6_in rfl (by decide +kernel) (by rw [hR]; exact ⟨Nat.le_of_ble_eq_true rfl, Nat.le_of_ble_eq_true rfl⟩) [] (by decide) rfl [] rfl rfl rfl rfl (Nat.le_of_ble_eq_true rfl) dX6_later_23 ⟨Nat.zero_le _, Nat.zero_le _⟩ (fun H locs hw => ?_)
  have hw : g_W D A s [(o, .inr (6, [.int 0, u1, u2, u3, u4, u5, u6, u7, u8, u9, u10, u11, u12, u13, u14, u15, u16, u17, u18, u19, u20, u21, u22, u23, u24, u25, u26, u27, u28, u29, u30, u31, u32, u33, u34, u35]))] H locs := hw
  refine W.eq (congrArg (fun z => F0 m 26 ls (.int z :: [])) (show (b2i (inL w.toInt64 0 4) : Int32) = 0 from (congrArg b2i (in_o (a := 0) (b := 4) ho (by decide) (by decide))))) ?_
  refine lv_if_ne (tgt := 32) hx hb dX6_later_26 (by decide) (fun c_26 => absurd c_26 (by decide)) (fun c_26 => ?_)
  refine lv_bipush (v := (-2)) hx hb dX6_later_29 (by decide) ?_
  exact g_iret hQ hc hw hr rfl rfl dX6_later_31

theorem dX6_later_32 : decode cX6_later 32 = .ok (.aload_n 0, 1) := by decide +kernel
theorem dX6_later_33 : decode cX6_later 33 = .ok (.iload_n 1, 1) := by decide +kernel
theorem dX6_later_34 : decode cX6_later 34 = .ok (.invokevirtual 251, 3) := by decide +kernel
theorem dX6_later_37 : decode cX6_later 37 = .ok (.aload_n 0, 1) := by decide +kernel
theorem dX6_later_38 : decode cX6_later 38 = .ok (.getfield 32, 3) := by decide +kernel
theorem dX6_later_41 : decode cX6_later 41 = .ok (.iconst 1, 1) := by decide +kernel
theorem dX6_later_42 : decode cX6_later 42 = .ok (.iload_n 2, 1) := by decide +kernel
theorem dX6_later_43 : decode cX6_later 43 = .ok (.iadd, 1) := by decide +kernel
theorem dX6_later_44 : decode cX6_later 44 = .ok (.iaload, 1) := by decide +kernel
theorem dX6_later_45 : decode cX6_later 45 = .ok (.ireturn, 1) := by decide +kernel
set_option maxRecDepth 20000 in
theorem ggX6_later_X6_tryTicks : GoodIn wsX6_later wsX6_tryTicks := goodIn_r _ [12, 4, 13, 14, 15, 16, 7, 17, 18, 19, 20, 21, 22, 23, 24, 25, 26, 27, 28, 29, 30, 31, 32, 33, 34, 35, 36, 37, 38, 39, 40, 41, 42, 43, 44, 45, 46, 47, 48, 49, 50, 51, 52, 53, 54, 55, 56, 57, 58, 59, 60, 61, 62, 63, 64, 65, 66, 67, 68, 69, 70, 71, 72, 73, 74, 75, 76, 77, 78, 79, 80, 81, 82, 83, 84, 85, 86, 87, 88, 89, 90, 91, 92, 93, 94, 95, 96, 97, 98, 99, 100, 101, 102, 103, 104, 105, 106, 107, 108, 109, 110, 111, 112, 113, 114, 115, 116, 117, 118, 119, 120, 121, 122, 123, 124, 125, 126, 127, 128, 129, 130, 131, 132, 133, 134] rfl (by decide +kernel)
set_option maxRecDepth 20000 in
theorem gX6_later_X6_tryTicks : GoodIn wsX6_later (wsV RX6 251 RX6 yX6_tryTicks wsX6_tryTicks) := goodIn_app (goodIn_of _ (by decide +kernel)) ggX6_later_X6_tryTicks
set_option maxRecDepth 100000 in
set_option maxHeartbeats 4000000 in
theorem m_X6_later {l : Launch} {D : va_G} {E : Nat → ClassId} {T : Nat → Nat} (o : Nat) (xa : Nat) (fa : Nat) (wa : Nat) (la : Nat) (ta : Nat) (ma : Nat) (sa : Nat) (nw : Nat) (nf : Nat) (pa : Nat) (va : Nat) (ua : Nat) (ya : Nat) (B : Nat) (u0 : Value) (u1 : Value) (u2 : Value) (u7 : Value) (u8 : Value) (u9 : Value) (u10 : Value) (u15 : Value) (u16 : Value) (u17 : Value) (u18 : Value) (u19 : Value) (u20 : Value) (u21 : Value) (u22 : Value) (u23 : Value) (u24 : Value) (u25 : Value) (u26 : Value) (u34 : Value) (fl : Nat → Int32) (S : TS) (U : TS) (K : RJ) (n : Nat) (k : Nat) (hok : OkS B S) (hB : B + 300 < 2 ^ 31) (hnw : nw ≤ 6) (hnf : nf ≤ 6) (hn : n ≤ 99) (hk : k ≤ 4) : g_M l D E T yX6_later wsX6_later 8 194 [.ref o, .int (nI n), .int (nI k)] [(o, .inr (6, [u0, u1, u2, .ref xa, .int (nI nw), .int (nI nf), .ref fa, u7, u8, u9, u10, .ref pa, .ref va, .ref ua, .ref ya, u15, u16, u17, u18, u19, u20, u21, u22, u23, u24, u25, u26, .ref wa, .ref la, .ref ta, .int (rS K), .int (rN K), .float (rH K), .ref ma, u34, .ref sa])), (xa, .inl (E 0, 12, .inl (g_tv 0))), (fa, .inl (E 0, 18, .inl fl)), (wa, .inl (E 0, 3, .inl (rW K))), (la, .inl (E 1, 4, .inr (.inr (.inl (rP K))))), (ta, .inl (E 1, 4, .inr (.inr (.inl (rT K))))), (ma, .inl (E 1, 3, .inr (.inr (.inl (rM K))))), (sa, .inl (E 0, 9, .inl (g_tv 1))), (pa, .inl (E 0, 29, .inl (pgF S))), (va, .inl (E 1, 5, .inr (.inr (.inl (fl5 S))))), (ua, .inl (E 0, 29, .inl (pgF U))), (ya, .inl (E 1, 5, .inr (.inr (.inl (fl5 U)))))] [(o, .inr (6, [.int 0, u1, u2, .ref xa, .int (nI nw), .int (nI nf), .ref fa, u7, u8, u9, u10, .ref pa, .ref va, .ref ua, .ref ya, u15, u16, u17, u18, u19, u20, u21, u22, u23, u24, u25, u26, .ref wa, .ref la, .ref ta, .int (rS (rjN nw nf fl (x3F 0 0 0) S K n)), .int (rN (rjN nw nf fl (x3F 0 0 0) S K n)), .float (rH (rjN nw nf fl (x3F 0 0 0) S K n)), .ref ma, u34, .ref sa])), (xa, .inl (E 0, 12, .inl (g_tv 0))), (fa, .inl (E 0, 18, .inl fl)), (wa, .inl (E 0, 3, .inl (rW (rjN nw nf fl (x3F 0 0 0) S K n)))), (la, .inl (E 1, 4, .inr (.inr (.inl (rP (rjN nw nf fl (x3F 0 0 0) S K n)))))), (ta, .inl (E 1, 4, .inr (.inr (.inl (rT (rjN nw nf fl (x3F 0 0 0) S K n)))))), (ma, .inl (E 1, 3, .inr (.inr (.inl (rM (rjN nw nf fl (x3F 0 0 0) S K n)))))), (sa, .inl (E 0, 9, .inl (g_tv 1))), (pa, .inl (E 0, 29, .inl (pgF S))), (va, .inl (E 1, 5, .inr (.inr (.inl (fl5 S))))), (ua, .inl (E 0, 29, .inl (pgF (tkN nw nf fl (x3F 0 0 0) S n)))), (ya, .inl (E 1, 5, .inr (.inr (.inl (fl5 (tkN nw nf fl (x3F 0 0 0) S n))))))] (some (.int (laF (tkN nw nf fl (x3F 0 0 0) S n) k))) := by
  refine g_M.of (cc := cX6_later) (nL := 3) (ret := (some .int)) (own := RX6) (lv := [(0, .ref o), (1, .int (nI n)), (2, .int (nI k))]) (by decide) rfl rfl (Nat.le_of_ble_eq_true rfl) rfl ?_
  intro p e R s m args below meth c A Q H locs ls hR hQ hc hr hw hl
  have hx := hc.1
  have hb := hc.2.1
  have hts := hc.2.2.2.1
  have hown := hc.2.2.2.2.1
  refine lv_aload_n hx hb dX6_later_0 rfl (lv_at hl 0 rfl) ?_
  refine lv_iconst (v := 0) hx hb dX6_later_1 (by decide) ?_
  refine g_put (TT := TX6) hc hw inX6_later_X6 tyX6 tyX6_ok nmX6 0 0 1 rfl rfl (by decide) rfl rfl rfl rfl (Nat.le_of_ble_eq_true rfl) dX6_later_2 (fun H locs hw => ?_)
  have hw : g_W D A s [(o, .inr (6, [.int 0, u1, u2, .ref xa, .int (nI nw), .int (nI nf), .ref fa, u7, u8, u9, u10, .ref pa, .ref va, .ref ua, .ref ya, u15, u16, u17, u18, u19, u20, u21, u22, u23, u24, u25, u26, .ref wa, .ref la, .ref ta, .int (rS K), .int (rN K), .float (rH K), .ref ma, u34, .ref sa])), (xa, .inl (E 0, 12, .inl (g_tv 0))), (fa, .inl (E 0, 18, .inl fl)), (wa, .inl (E 0, 3, .inl (rW K))), (la, .inl (E 1, 4, .inr (.inr (.inl (rP K))))), (ta, .inl (E 1, 4, .inr (.inr (.inl (rT K))))), (ma, .inl (E 1, 3, .inr (.inr (.inl (rM K))))), (sa, .inl (E 0, 9, .inl (g_tv 1))), (pa, .inl (E 0, 29, .inl (pgF S))), (va, .inl (E 1, 5, .inr (.inr (.inl (fl5 S))))), (ua, .inl (E 0, 29, .inl (pgF U))), (ya, .inl (E 1, 5, .inr (.inr (.inl (fl5 U)))))] H locs := hw
  refine lv_iload_n hx hb dX6_later_5 rfl (lv_at hl 1 rfl) ?_
  refine lv_i2l hx hb dX6_later_6 rfl ?_
  refine lv_lconst (v := 0) hx hb dX6_later_7 (by decide) ?_
  refine lv_ldc2 (v := 99) hx hb hown (hts _ (List.mem_of_getElem? (i := 2) rfl)) dX6_later_8 ?_
  refine g_cS (As := [.long ((nI n).toInt64), .long 0, .long 99]) (n := 3) (rest := []) (wc := []) (w1 := []) (bytes := cX6_in) (maxL := 6) (ret := (some .boolean)) hc hw hl.1 (m_X6_in (l := l) (D := D) (E := E) (T := T) ((nI n).toInt64) 0 99) gX6_later_X6_in rfl (by decide +kernel) (by rw [hR]; exact ⟨Nat.le_of_ble_eq_true rfl, Nat.le_of_ble_eq_true rfl⟩) [] (by decide) rfl [] rfl rfl rfl rfl (Nat.le_of_ble_eq_true rfl) dX6_later_11 ⟨Nat.zero_le _, Nat.zero_le _⟩ (fun H locs hw => ?_)
  have hw : g_W D A s [(o, .inr (6, [.int 0, u1, u2, .ref xa, .int (nI nw), .int (nI nf), .ref fa, u7, u8, u9, u10, .ref pa, .ref va, .ref ua, .ref ya, u15, u16, u17, u18, u19, u20, u21, u22, u23, u24, u25, u26, .ref wa, .ref la, .ref ta, .int (rS K), .int (rN K), .float (rH K), .ref ma, u34, .ref sa])), (xa, .inl (E 0, 12, .inl (g_tv 0))), (fa, .inl (E 0, 18, .inl fl)), (wa, .inl (E 0, 3, .inl (rW K))), (la, .inl (E 1, 4, .inr (.inr (.inl (rP K))))), (ta, .inl (E 1, 4, .inr (.inr (.inl (rT K))))), (ma, .inl (E 1, 3, .inr (.inr (.inl (rM K))))), (sa, .inl (E 0, 9, .inl (g_tv 1))), (pa, .inl (E 0, 29, .inl (pgF S))), (va, .inl (E 1, 5, .inr (.inr (.inl (fl5 S))))), (ua, .inl (E 0, 29, .inl (pgF U))), (ya, .inl (E 1, 5, .inr (.inr (.inl (fl5 U)))))] H locs := hw
  refine W.eq (congrArg (fun z => F0 m 14 ls (.int z :: [])) (show (b2i (inL ((nI n).toInt64) 0 99) : Int32) = 1 from (congrArg b2i (in_i (out_nf (n := n) (a := 0) (b := 99) (by omega) hn (by decide)) (by decide) (by decide))))) ?_
  refine lv_if_eq (tgt := 29) hx hb dX6_later_14 (by decide) (fun c_14 => absurd c_14 (by decide)) (fun c_14 => ?_)
  refine lv_iload_n hx hb dX6_later_17 rfl (lv_at hl 2 rfl) ?_
  refine lv_i2l hx hb dX6_later_18 rfl ?_
  refine lv_lconst (v := 0) hx hb dX6_later_19 (by decide) ?_
  refine lv_ldc2 (v := 4) hx hb hown (hts _ (List.mem_of_getElem? (i := 3) rfl)) dX6_later_20 ?_
  refine g_cS (As := [.long ((nI k).toInt64), .long 0, .long 4]) (n := 3) (rest := []) (wc := []) (w1 := []) (bytes := cX6_in) (maxL := 6) (ret := (some .boolean)) hc hw hl.1 (m_X6_in (l := l) (D := D) (E := E) (T := T) ((nI k).toInt64) 0 4) gX6_later_X6_in rfl (by decide +kernel) (by rw [hR]; exact ⟨Nat.le_of_ble_eq_true rfl, Nat.le_of_ble_eq_true rfl⟩) [] (by decide) rfl [] rfl rfl rfl rfl (Nat.le_of_ble_eq_true rfl) dX6_later_23 ⟨Nat.zero_le _, Nat.zero_le _⟩ (fun H locs hw => ?_)
  have hw : g_W D A s [(o, .inr (6, [.int 0, u1, u2, .ref xa, .int (nI nw), .int (nI nf), .ref fa, u7, u8, u9, u10, .ref pa, .ref va, .ref ua, .ref ya, u15, u16, u17, u18, u19, u20, u21, u22, u23, u24, u25, u26, .ref wa, .ref la, .ref ta, .int (rS K), .int (rN K), .float (rH K), .ref ma, u34, .ref sa])), (xa, .inl (E 0, 12, .inl (g_tv 0))), (fa, .inl (E 0, 18, .inl fl)), (wa, .inl (E 0, 3, .inl (rW K))), (la, .inl (E 1, 4, .inr (.inr (.inl (rP K))))), (ta, .inl (E 1, 4, .inr (.inr (.inl (rT K))))), (ma, .inl (E 1, 3, .inr (.inr (.inl (rM K))))), (sa, .inl (E 0, 9, .inl (g_tv 1))), (pa, .inl (E 0, 29, .inl (pgF S))), (va, .inl (E 1, 5, .inr (.inr (.inl (fl5 S))))), (ua, .inl (E 0, 29, .inl (pgF U))), (ya, .inl (E 1, 5, .inr (.inr (.inl (fl5 U)))))] H locs := hw
  refine W.eq (congrArg (fun z => F0 m 26 ls (.int z :: [])) (show (b2i (inL ((nI k).toInt64) 0 4) : Int32) = 1 from (congrArg b2i (in_i (out_nf (n := k) (a := 0) (b := 4) (by omega) hk (by decide)) (by decide) (by decide))))) ?_
  refine lv_if_ne (tgt := 32) hx hb dX6_later_26 (by decide) (fun c_26 => ?_) (fun c_26 => absurd c_26 (by decide))
  refine lv_aload_n hx hb dX6_later_32 rfl (lv_at hl 0 rfl) ?_
  refine lv_iload_n hx hb dX6_later_33 rfl (lv_at hl 1 rfl) ?_
  refine g_cV (As := [.int (nI n)]) (n := 1) (rest := []) (wc := [(o, .inr (6, [.int 0, u1, u2, .ref xa, .int (nI nw), .int (nI nf), .ref fa, u7, u8, u9, u10, .ref pa, .ref va, .ref ua, .ref ya, u15, u16, u17, u18, u19, u20, u21, u22, u23, u24, u25, u26, .ref wa, .ref la, .ref ta, .int (rS K), .int (rN K), .float (rH K), .ref ma, u34, .ref sa])), (xa, .inl (E 0, 12, .inl (g_tv 0))), (fa, .inl (E 0, 18, .inl fl)), (wa, .inl (E 0, 3, .inl (rW K))), (la, .inl (E 1, 4, .inr (.inr (.inl (rP K))))), (ta, .inl (E 1, 4, .inr (.inr (.inl (rT K))))), (ma, .inl (E 1, 3, .inr (.inr (.inl (rM K))))), (sa, .inl (E 0, 9, .inl (g_tv 1))), (pa, .inl (E 0, 29, .inl (pgF S))), (va, .inl (E 1, 5, .inr (.inr (.inl (fl5 S))))), (ua, .inl (E 0, 29, .inl (pgF U))), (ya, .inl (E 1, 5, .inr (.inr (.inl (fl5 U)))))]) (w1 := [(o, .inr (6, [.int 0, u1, u2, .ref xa, .int (nI nw), .int (nI nf), .ref fa, u7, u8, u9, u10, .ref pa, .ref va, .ref ua, .ref ya, u15, u16, u17, u18, u19, u20, u21, u22, u23, u24, u25, u26, .ref wa, .ref la, .ref ta, .int (rS (rjN nw nf fl (x3F 0 0 0) S K n)), .int (rN (rjN nw nf fl (x3F 0 0 0) S K n)), .float (rH (rjN nw nf fl (x3F 0 0 0) S K n)), .ref ma, u34, .ref sa])), (xa, .inl (E 0, 12, .inl (g_tv 0))), (fa, .inl (E 0, 18, .inl fl)), (wa, .inl (E 0, 3, .inl (rW (rjN nw nf fl (x3F 0 0 0) S K n)))), (la, .inl (E 1, 4, .inr (.inr (.inl (rP (rjN nw nf fl (x3F 0 0 0) S K n)))))), (ta, .inl (E 1, 4, .inr (.inr (.inl (rT (rjN nw nf fl (x3F 0 0 0) S K n)))))), (ma, .inl (E 1, 3, .inr (.inr (.inl (rM (rjN nw nf fl (x3F 0 0 0) S K n)))))), (sa, .inl (E 0, 9, .inl (g_tv 1))), (pa, .inl (E 0, 29, .inl (pgF S))), (va, .inl (E 1, 5, .inr (.inr (.inl (fl5 S))))), (ua, .inl (E 0, 29, .inl (pgF (tkN nw nf fl (x3F 0 0 0) S n)))), (ya, .inl (E 1, 5, .inr (.inr (.inl (fl5 (tkN nw nf fl (x3F 0 0 0) S n))))))]) (bytes := cX6_tryTicks) (maxL := 2) (ret := none) hc hw hl.1 (m_X6_tryTicks (l := l) (D := D) (E := E) (T := T) o xa fa wa la ta ma sa nw nf pa va ua ya B (.int 0) u1 u2 u7 u8 u9 u10 u15 u16 u17 u18 u19 u20 u21 u22 u23 u24 u25 u26 u34 fl S U K n hok (by omega) (by first | assumption | omega | decide) (by first | assumption | omega | decide)) gX6_later_X6_tryTicks rfl (by decide +kernel) (by rw [hR]; exact ⟨Nat.le_of_ble_eq_true rfl, Nat.le_of_ble_eq_true rfl⟩) [0, 1, 2, 3, 4, 5, 6, 7, 8, 9, 10, 11] 0 6 rfl rfl (by decide) rfl [o, xa, fa, wa, la, ta, ma, sa, pa, va, ua, ya] rfl rfl rfl rfl (Nat.le_of_ble_eq_true rfl) dX6_later_34 ⟨Nat.zero_le _, Nat.zero_le _⟩ (fun H locs hw => ?_)
  have hw : g_W D A s [(o, .inr (6, [.int 0, u1, u2, .ref xa, .int (nI nw), .int (nI nf), .ref fa, u7, u8, u9, u10, .ref pa, .ref va, .ref ua, .ref ya, u15, u16, u17, u18, u19, u20, u21, u22, u23, u24, u25, u26, .ref wa, .ref la, .ref ta, .int (rS (rjN nw nf fl (x3F 0 0 0) S K n)), .int (rN (rjN nw nf fl (x3F 0 0 0) S K n)), .float (rH (rjN nw nf fl (x3F 0 0 0) S K n)), .ref ma, u34, .ref sa])), (xa, .inl (E 0, 12, .inl (g_tv 0))), (fa, .inl (E 0, 18, .inl fl)), (wa, .inl (E 0, 3, .inl (rW (rjN nw nf fl (x3F 0 0 0) S K n)))), (la, .inl (E 1, 4, .inr (.inr (.inl (rP (rjN nw nf fl (x3F 0 0 0) S K n)))))), (ta, .inl (E 1, 4, .inr (.inr (.inl (rT (rjN nw nf fl (x3F 0 0 0) S K n)))))), (ma, .inl (E 1, 3, .inr (.inr (.inl (rM (rjN nw nf fl (x3F 0 0 0) S K n)))))), (sa, .inl (E 0, 9, .inl (g_tv 1))), (pa, .inl (E 0, 29, .inl (pgF S))), (va, .inl (E 1, 5, .inr (.inr (.inl (fl5 S))))), (ua, .inl (E 0, 29, .inl (pgF (tkN nw nf fl (x3F 0 0 0) S n)))), (ya, .inl (E 1, 5, .inr (.inr (.inl (fl5 (tkN nw nf fl (x3F 0 0 0) S n))))))] H locs := hw
  refine lv_aload_n hx hb dX6_later_37 rfl (lv_at hl 0 rfl) ?_
  refine g_get (TT := TX6) hc hw inX6_later_X6 0 13 4 rfl rfl (by decide) rfl rfl dX6_later_38 ?_
  refine lv_iconst (v := 1) hx hb dX6_later_41 (by decide) ?_
  refine lv_iload_n hx hb dX6_later_42 rfl (lv_at hl 2 rfl) ?_
  refine lv_iadd hx hb dX6_later_43 ?_
  refine g_ild hc hw 10 (1 + k) rfl (n_add rfl rfl) (by omega) (by decide) dX6_later_44 ?_
  exact g_iret hQ hc hw hr (by exact congrArg (fun z => some (Value.int z)) ((la_pg _ hk).symm)) rfl dX6_later_45

theorem dX6_spun_0 : decode cX6_spun 0 = .ok (.aload_n 0, 1) := by decide +kernel
theorem dX6_spun_1 : decode cX6_spun 1 = .ok (.iconst 0, 1) := by decide +kernel
theorem dX6_spun_2 : decode cX6_spun 2 = .ok (.putfield 88, 3) := by decide +kernel
theorem dX6_spun_5 : decode cX6_spun 5 = .ok (.aload_n 0, 1) := by decide +kernel
theorem dX6_spun_6 : decode cX6_spun 6 = .ok (.invokevirtual 248, 3) := by decide +kernel
theorem dX6_spun_9 : decode cX6_spun 9 = .ok (.iconst 0, 1) := by decide +kernel
theorem dX6_spun_10 : decode cX6_spun 10 = .ok (.istore_n 1, 1) := by decide +kernel
theorem dX6_spun_11 : decode cX6_spun 11 = .ok (.iload_n 1, 1) := by decide +kernel
theorem dX6_spun_12 : decode cX6_spun 12 = .ok (.bipush 60, 2) := by decide +kernel
theorem dX6_spun_14 : decode cX6_spun 14 = .ok (.if_icmp .gt 34, 3) := by decide +kernel
theorem dX6_spun_17 : decode cX6_spun 17 = .ok (.aload_n 0, 1) := by decide +kernel
theorem dX6_spun_18 : decode cX6_spun 18 = .ok (.getfield 32, 3) := by decide +kernel
theorem dX6_spun_21 : decode cX6_spun 21 = .ok (.iconst 1, 1) := by decide +kernel
theorem dX6_spun_22 : decode cX6_spun 22 = .ok (.iaload, 1) := by decide +kernel
theorem dX6_spun_23 : decode cX6_spun 23 = .ok (.iconst 1, 1) := by decide +kernel
theorem dX6_spun_24 : decode cX6_spun 24 = .ok (.if_icmp .ne 5, 3) := by decide +kernel
theorem dX6_spun_27 : decode cX6_spun 27 = .ok (.iload_n 1, 1) := by decide +kernel
theorem dX6_spun_28 : decode cX6_spun 28 = .ok (.ireturn, 1) := by decide +kernel
theorem dX6_spun_29 : decode cX6_spun 29 = .ok (.aload_n 0, 1) := by decide +kernel
theorem dX6_spun_30 : decode cX6_spun 30 = .ok (.aload_n 0, 1) := by decide +kernel
theorem dX6_spun_31 : decode cX6_spun 31 = .ok (.getfield 32, 3) := by decide +kernel
theorem dX6_spun_34 : decode cX6_spun 34 = .ok (.aload_n 0, 1) := by decide +kernel
theorem dX6_spun_35 : decode cX6_spun 35 = .ok (.getfield 35, 3) := by decide +kernel
theorem dX6_spun_38 : decode cX6_spun 38 = .ok (.iconst 1, 1) := by decide +kernel
theorem dX6_spun_39 : decode cX6_spun 39 = .ok (.invokevirtual 234, 3) := by decide +kernel
theorem dX6_spun_42 : decode cX6_spun 42 = .ok (.iinc 1 1, 3) := by decide +kernel
theorem dX6_spun_45 : decode cX6_spun 45 = .ok (.goto (-34), 3) := by decide +kernel
theorem dX6_spun_48 : decode cX6_spun 48 = .ok (.bipush (-9), 2) := by decide +kernel
theorem dX6_spun_50 : decode cX6_spun 50 = .ok (.ireturn, 1) := by decide +kernel
set_option maxRecDepth 20000 in
theorem ggX6_spun_X6_layTrial : GoodIn wsX6_spun wsX6_layTrial := goodIn_r _ [8, 2, 9, 3, 10, 90, 91, 92, 93, 94, 95, 96, 97, 98, 99, 100, 101, 102, 103, 104, 105, 106, 107, 108, 109, 110, 111, 112, 113, 114, 115, 116, 117, 118, 119, 120, 121, 122, 123, 124, 125] rfl (by decide +kernel)
set_option maxRecDepth 20000 in
theorem gX6_spun_X6_layTrial : GoodIn wsX6_spun (wsV RX6 248 RX6 yX6_layTrial wsX6_layTrial) := goodIn_app (goodIn_of _ (by decide +kernel)) ggX6_spun_X6_layTrial
set_option maxRecDepth 20000 in
theorem ggX6_spun_X6_tickMany : GoodIn wsX6_spun wsX6_tickMany := goodIn_r _ [14, 15, 16, 17, 7, 18, 19, 20, 21, 22, 23, 24, 25, 26, 27, 28, 29, 30, 31, 32, 33, 34, 35, 36, 37, 38, 39, 40, 41, 42, 43, 44, 45, 46, 47, 48, 49, 50, 51, 52, 53, 54, 55, 56, 57, 58, 59, 60, 61, 62, 63, 64, 65, 66, 67, 68, 69, 70, 71, 72, 73, 74, 75, 76, 77, 78, 79, 80, 81, 82, 83, 84, 85, 86, 87, 88, 89, 90, 91, 92, 93, 94, 95, 96, 97, 98, 99, 100, 101, 102, 103, 104, 105, 106, 107, 108, 109, 110, 111, 112, 113, 114, 115, 116, 117, 118, 119, 120, 121, 122, 123, 124, 125] rfl (by decide +kernel)
set_option maxRecDepth 20000 in
theorem gX6_spun_X6_tickMany : GoodIn wsX6_spun (wsV RX6 234 RX6 yX6_tickMany wsX6_tickMany) := goodIn_app (goodIn_of _ (by decide +kernel)) ggX6_spun_X6_tickMany
theorem inX6_spun_X6 : ∀ w ∈ u_ws RX6 TX6 36, w ∈ wsX6_spun := fun w h => List.mem_cons_of_mem _ (List.mem_append_right _ h)
set_option maxRecDepth 100000 in
set_option maxHeartbeats 4000000 in
theorem m_X6_spun {l : Launch} {D : va_G} {E : Nat → ClassId} {T : Nat → Nat} (o : Nat) (xa : Nat) (fa : Nat) (wa : Nat) (la : Nat) (ta : Nat) (ma : Nat) (sa : Nat) (nw : Nat) (nf : Nat) (pa : Nat) (va : Nat) (ua : Nat) (ya : Nat) (B : Nat) (u0 : Value) (u1 : Value) (u2 : Value) (u7 : Value) (u8 : Value) (u9 : Value) (u10 : Value) (u15 : Value) (u16 : Value) (u17 : Value) (u18 : Value) (u19 : Value) (u20 : Value) (u21 : Value) (u22 : Value) (u23 : Value) (u24 : Value) (u25 : Value) (u26 : Value) (u34 : Value) (fl : Nat → Int32) (S : TS) (U : TS) (K : RJ) (hok : OkS B S) (hB : B + 300 < 2 ^ 31) (hnw : nw ≤ 6) (hnf : nf ≤ 6) : g_ME l D E T yX6_spun wsX6_spun 7 173 [.ref o] [(o, .inr (6, [u0, u1, u2, .ref xa, .int (nI nw), .int (nI nf), .ref fa, u7, u8, u9, u10, .ref pa, .ref va, .ref ua, .ref ya, u15, u16, u17, u18, u19, u20, u21, u22, u23, u24, u25, u26, .ref wa, .ref la, .ref ta, .int (rS K), .int (rN K), .float (rH K), .ref ma, u34, .ref sa])), (xa, .inl (E 0, 12, .inl (g_tv 0))), (fa, .inl (E 0, 18, .inl fl)), (wa, .inl (E 0, 3, .inl (rW K))), (la, .inl (E 1, 4, .inr (.inr (.inl (rP K))))), (ta, .inl (E 1, 4, .inr (.inr (.inl (rT K))))), (ma, .inl (E 1, 3, .inr (.inr (.inl (rM K))))), (sa, .inl (E 0, 9, .inl (g_tv 1))), (pa, .inl (E 0, 29, .inl (pgF S))), (va, .inl (E 1, 5, .inr (.inr (.inl (fl5 S))))), (ua, .inl (E 0, 29, .inl (pgF U))), (ya, .inl (E 1, 5, .inr (.inr (.inl (fl5 U)))))] (fun (y9 : RJ × TS) => [(o, .inr (6, [.int 0, u1, u2, .ref xa, .int (nI nw), .int (nI nf), .ref fa, u7, u8, u9, u10, .ref pa, .ref va, .ref ua, .ref ya, u15, u16, u17, u18, u19, u20, u21, u22, u23, u24, u25, u26, .ref wa, .ref la, .ref ta, .int (rS y9.1), .int (rN y9.1), .float (rH y9.1), .ref ma, u34, .ref sa])), (xa, .inl (E 0, 12, .inl (g_tv 0))), (fa, .inl (E 0, 18, .inl fl)), (wa, .inl (E 0, 3, .inl (rW y9.1))), (la, .inl (E 1, 4, .inr (.inr (.inl (rP y9.1))))), (ta, .inl (E 1, 4, .inr (.inr (.inl (rT y9.1))))), (ma, .inl (E 1, 3, .inr (.inr (.inl (rM y9.1))))), (sa, .inl (E 0, 9, .inl (g_tv 1))), (pa, .inl (E 0, 29, .inl (pgF S))), (va, .inl (E 1, 5, .inr (.inr (.inl (fl5 S))))), (ua, .inl (E 0, 29, .inl (pgF y9.2))), (ya, .inl (E 1, 5, .inr (.inr (.inl (fl5 y9.2)))))]) (some (.int (sfI (spA nw nf fl (x3F 0 0 0) S) 61))) := by
  refine g_ME.of (cc := cX6_spun) (nL := 2) (ret := (some .int)) (own := RX6) (lv := [(0, .ref o)]) (by decide) rfl rfl (Nat.le_of_ble_eq_true rfl) rfl ?_
  intro p e R s m args below meth c A Q H locs ls hR hQ hc hr hw hl
  have hx := hc.1
  have hb := hc.2.1
  have hts := hc.2.2.2.1
  have hown := hc.2.2.2.2.1
  refine lv_aload_n hx hb dX6_spun_0 rfl (lv_at hl 0 rfl) ?_
  refine lv_iconst (v := 0) hx hb dX6_spun_1 (by decide) ?_
  refine g_put (TT := TX6) hc hw inX6_spun_X6 tyX6 tyX6_ok nmX6 0 0 1 rfl rfl (by decide) rfl rfl rfl rfl (Nat.le_of_ble_eq_true rfl) dX6_spun_2 (fun H locs hw => ?_)
  have hw : g_W D A s [(o, .inr (6, [.int 0, u1, u2, .ref xa, .int (nI nw), .int (nI nf), .ref fa, u7, u8, u9, u10, .ref pa, .ref va, .ref ua, .ref ya, u15, u16, u17, u18, u19, u20, u21, u22, u23, u24, u25, u26, .ref wa, .ref la, .ref ta, .int (rS K), .int (rN K), .float (rH K), .ref ma, u34, .ref sa])), (xa, .inl (E 0, 12, .inl (g_tv 0))), (fa, .inl (E 0, 18, .inl fl)), (wa, .inl (E 0, 3, .inl (rW K))), (la, .inl (E 1, 4, .inr (.inr (.inl (rP K))))), (ta, .inl (E 1, 4, .inr (.inr (.inl (rT K))))), (ma, .inl (E 1, 3, .inr (.inr (.inl (rM K))))), (sa, .inl (E 0, 9, .inl (g_tv 1))), (pa, .inl (E 0, 29, .inl (pgF S))), (va, .inl (E 1, 5, .inr (.inr (.inl (fl5 S))))), (ua, .inl (E 0, 29, .inl (pgF U))), (ya, .inl (E 1, 5, .inr (.inr (.inl (fl5 U)))))] H locs := hw
  refine lv_aload_n hx hb dX6_spun_5 rfl (lv_at hl 0 rfl) ?_
  refine g_cV (As := []) (n := 0) (rest := []) (wc := [(o, .inr (6, [.int 0, u1, u2, .ref xa, .int (nI nw), .int (nI nf), .ref fa, u7, u8, u9, u10, .ref pa, .ref va, .ref ua, .ref ya, u15, u16, u17, u18, u19, u20, u21, u22, u23, u24, u25, u26, .ref wa, .ref la, .ref ta, .int (rS K), .int (rN K), .float (rH K), .ref ma, u34, .ref sa])), (pa, .inl (E 0, 29, .inl (pgF S))), (va, .inl (E 1, 5, .inr (.inr (.inl (fl5 S))))), (ua, .inl (E 0, 29, .inl (pgF U))), (ya, .inl (E 1, 5, .inr (.inr (.inl (fl5 U)))))]) (w1 := [(o, .inr (6, [.int 0, u1, u2, .ref xa, .int (nI nw), .int (nI nf), .ref fa, u7, u8, u9, u10, .ref pa, .ref va, .ref ua, .ref ya, u15, u16, u17, u18, u19, u20, u21, u22, u23, u24, u25, u26, .ref wa, .ref la, .ref ta, .int (rS K), .int (rN K), .float (rH K), .ref ma, u34, .ref sa])), (pa, .inl (E 0, 29, .inl (pgF S))), (va, .inl (E 1, 5, .inr (.inr (.inl (fl5 S))))), (ua, .inl (E 0, 29, .inl (pgF S))), (ya, .inl (E 1, 5, .inr (.inr (.inl (fl5 S)))))]) (bytes := cX6_layTrial) (maxL := 2) (ret := none) hc hw hl.1 (m_X6_layTrial (l := l) (D := D) (E := E) (T := T) o (.int 0) u1 u2 (.ref xa) (.int (nI nw)) (.int (nI nf)) (.ref fa) u7 u8 u9 u10 u15 u16 u17 u18 u19 u20 u21 u22 u23 u24 u25 u26 (.ref wa) (.ref la) (.ref ta) (.int (rS K)) (.int (rN K)) (.float (rH K)) (.ref ma) u34 (.ref sa) pa va ua ya (pgF S) (fl5 S) (pgF U) (fl5 U)) gX6_spun_X6_layTrial rfl (by decide +kernel) (by rw [hR]; exact ⟨Nat.le_of_ble_eq_true rfl, Nat.le_of_ble_eq_true rfl⟩) [0, 8, 9, 10, 11] 0 6 rfl rfl (by decide) rfl [o, pa, va, ua, ya] rfl rfl rfl rfl (Nat.le_of_ble_eq_true rfl) dX6_spun_6 ⟨Nat.zero_le _, Nat.zero_le _⟩ (fun H locs hw => ?_)
  have hw : g_W D A s [(o, .inr (6, [.int 0, u1, u2, .ref xa, .int (nI nw), .int (nI nf), .ref fa, u7, u8, u9, u10, .ref pa, .ref va, .ref ua, .ref ya, u15, u16, u17, u18, u19, u20, u21, u22, u23, u24, u25, u26, .ref wa, .ref la, .ref ta, .int (rS K), .int (rN K), .float (rH K), .ref ma, u34, .ref sa])), (xa, .inl (E 0, 12, .inl (g_tv 0))), (fa, .inl (E 0, 18, .inl fl)), (wa, .inl (E 0, 3, .inl (rW K))), (la, .inl (E 1, 4, .inr (.inr (.inl (rP K))))), (ta, .inl (E 1, 4, .inr (.inr (.inl (rT K))))), (ma, .inl (E 1, 3, .inr (.inr (.inl (rM K))))), (sa, .inl (E 0, 9, .inl (g_tv 1))), (pa, .inl (E 0, 29, .inl (pgF S))), (va, .inl (E 1, 5, .inr (.inr (.inl (fl5 S))))), (ua, .inl (E 0, 29, .inl (pgF S))), (ya, .inl (E 1, 5, .inr (.inr (.inl (fl5 S)))))] H locs := hw
  refine lv_iconst (v := 0) hx hb dX6_spun_9 (by decide) ?_
  refine lv_istore_n (lv' := [(1, .int 0), (0, .ref o)]) hx hb dX6_spun_10 rfl hl (by decide) rfl (fun ls hl => ?_)
  have J11 : ∀ (k9 : Nat) (i : Nat), i + k9 = 61 → ∀ (K1 : RJ), (∀ j, j < i → spA nw nf fl (x3F 0 0 0) S j = false) → ∀ (H : Heap) (locs : List Loc) (ls : Array Slot), g_W D A s [(o, .inr (6, [.int 0, u1, u2, .ref xa, .int (nI nw), .int (nI nf), .ref fa, u7, u8, u9, u10, .ref pa, .ref va, .ref ua, .ref ya, u15, u16, u17, u18, u19, u20, u21, u22, u23, u24, u25, u26, .ref wa, .ref la, .ref ta, .int (rS K1), .int (rN K1), .float (rH K1), .ref ma, u34, .ref sa])), (xa, .inl (E 0, 12, .inl (g_tv 0))), (fa, .inl (E 0, 18, .inl fl)), (wa, .inl (E 0, 3, .inl (rW K1))), (la, .inl (E 1, 4, .inr (.inr (.inl (rP K1))))), (ta, .inl (E 1, 4, .inr (.inr (.inl (rT K1))))), (ma, .inl (E 1, 3, .inr (.inr (.inl (rM K1))))), (sa, .inl (E 0, 9, .inl (g_tv 1))), (pa, .inl (E 0, 29, .inl (pgF S))), (va, .inl (E 1, 5, .inr (.inr (.inl (fl5 S))))), (ua, .inl (E 0, 29, .inl (pgF (tkN nw nf fl (x3F 0 0 0) S i)))), (ya, .inl (E 1, 5, .inr (.inr (.inl (fl5 (tkN nw nf fl (x3F 0 0 0) S i))))))] H locs → lv_has ls 2 [(0, .ref o), (1, .int (nI i))] → W p l e R s m args below meth c H locs 0 0 Q (F0 m 11 ls []) := by
    intro k9
    induction k9 with
    | zero =>
      intro i h9 K1 hall H locs ls hw hl
      have h9 : i = 61 := h9
      subst h9
      refine lv_iload_n hx hb dX6_spun_11 rfl (lv_at hl 1 rfl) ?_
      refine lv_bipush (v := 60) hx hb dX6_spun_12 (by decide) ?_
      refine lv_icmp_gt (tgt := 48) hx hb dX6_spun_14 (by decide) (fun c_14 => ?_) (fun c_14 => absurd (by decide) c_14)
      refine lv_bipush (v := (-9)) hx hb dX6_spun_48 (by decide) ?_
      exact g_iretE (K1, (tkN nw nf fl (x3F 0 0 0) S 61)) hQ hc hw hr (by exact congrArg (fun z => some (Value.int z)) (sfI_none hall)) rfl dX6_spun_50
    | succ k9 ih =>
      intro i h9 K1 hall H locs ls hw hl
      have h9b : i < 61 := by omega
      refine lv_iload_n hx hb dX6_spun_11 rfl (lv_at hl 1 rfl) ?_
      refine lv_bipush (v := 60) hx hb dX6_spun_12 (by decide) ?_
      refine lv_icmp_gt (tgt := 48) hx hb dX6_spun_14 (by decide) (fun c_14 => absurd c_14 (nI_nlt (show i ≤ 60 by omega) (by decide))) (fun c_14 => ?_)
      refine lv_aload_n hx hb dX6_spun_17 rfl (lv_at hl 0 rfl) ?_
      refine g_get (TT := TX6) hc hw inX6_spun_X6 0 13 2 rfl rfl (by decide) rfl rfl dX6_spun_18 ?_
      refine lv_iconst (v := 1) hx hb dX6_spun_21 (by decide) ?_
      refine g_ild hc hw 10 1 rfl rfl (by omega) (by decide) dX6_spun_22 ?_
      refine W.eq (congrArg (fun z => F0 m 23 ls (.int z :: [])) (show ((pgF (tkN nw nf fl (x3F 0 0 0) S i)) 1 : Int32) = sM (tkN nw nf fl (x3F 0 0 0) S i) from rfl)) ?_
      refine lv_iconst (v := 1) hx hb dX6_spun_23 (by decide) ?_
      refine lv_icmp_ne (tgt := 29) hx hb dX6_spun_24 (by decide) (fun c_24 => ?_) (fun c_24 => ?_)
      · skip
        refine lv_aload_n hx hb dX6_spun_29 rfl (lv_at hl 0 rfl) ?_
        refine lv_aload_n hx hb dX6_spun_30 rfl (lv_at hl 0 rfl) ?_
        refine g_get (TT := TX6) hc hw inX6_spun_X6 0 13 2 rfl rfl (by decide) rfl rfl dX6_spun_31 ?_
        refine lv_aload_n hx hb dX6_spun_34 rfl (lv_at hl 0 rfl) ?_
        refine g_get (TT := TX6) hc hw inX6_spun_X6 0 14 3 rfl rfl (by decide) rfl rfl dX6_spun_35 ?_
        refine lv_iconst (v := 1) hx hb dX6_spun_38 (by decide) ?_
        refine g_cEV (As := [.ref ua, .ref ya, .int 1]) (n := 3) (rest := []) (wc := [(o, .inr (6, [.int 0, u1, u2, .ref xa, .int (nI nw), .int (nI nf), .ref fa, u7, u8, u9, u10, .ref pa, .ref va, .ref ua, .ref ya, u15, u16, u17, u18, u19, u20, u21, u22, u23, u24, u25, u26, .ref wa, .ref la, .ref ta, .int (rS K1), .int (rN K1), .float (rH K1), .ref ma, u34, .ref sa])), (xa, .inl (E 0, 12, .inl (g_tv 0))), (fa, .inl (E 0, 18, .inl fl)), (wa, .inl (E 0, 3, .inl (rW K1))), (la, .inl (E 1, 4, .inr (.inr (.inl (rP K1))))), (ta, .inl (E 1, 4, .inr (.inr (.inl (rT K1))))), (ma, .inl (E 1, 3, .inr (.inr (.inl (rM K1))))), (sa, .inl (E 0, 9, .inl (g_tv 1))), (ua, .inl (E 0, 29, .inl (pgF (tkN nw nf fl (x3F 0 0 0) S i)))), (ya, .inl (E 1, 5, .inr (.inr (.inl (fl5 (tkN nw nf fl (x3F 0 0 0) S i))))))]) (w1 := (fun (K1 : RJ) => [(o, .inr (6, [.int 0, u1, u2, .ref xa, .int (nI nw), .int (nI nf), .ref fa, u7, u8, u9, u10, .ref pa, .ref va, .ref ua, .ref ya, u15, u16, u17, u18, u19, u20, u21, u22, u23, u24, u25, u26, .ref wa, .ref la, .ref ta, .int (rS K1), .int (rN K1), .float (rH K1), .ref ma, u34, .ref sa])), (xa, .inl (E 0, 12, .inl (g_tv 0))), (fa, .inl (E 0, 18, .inl fl)), (wa, .inl (E 0, 3, .inl (rW K1))), (la, .inl (E 1, 4, .inr (.inr (.inl (rP K1))))), (ta, .inl (E 1, 4, .inr (.inr (.inl (rT K1))))), (ma, .inl (E 1, 3, .inr (.inr (.inl (rM K1))))), (sa, .inl (E 0, 9, .inl (g_tv 1))), (ua, .inl (E 0, 29, .inl (pgF (tkN nw nf fl (x3F 0 0 0) (tkN nw nf fl (x3F 0 0 0) S i) 1)))), (ya, .inl (E 1, 5, .inr (.inr (.inl (fl5 (tkN nw nf fl (x3F 0 0 0) (tkN nw nf fl (x3F 0 0 0) S i) 1))))))])) (bytes := cX6_tickMany) (maxL := 5) (ret := none) hc hw hl.1 (m_X6_tickMany_x (l := l) (D := D) (E := E) (T := T) o xa fa wa la ta ma sa ua ya nw nf (B + i) (.int 0) u1 u2 u7 u8 u9 u10 (.ref pa) (.ref va) (.ref ua) (.ref ya) u15 u16 u17 u18 u19 u20 u21 u22 u23 u24 u25 u26 u34 fl (tkN nw nf fl (x3F 0 0 0) S i) K1 1 (hok.tn nw nf fl (x3F 0 0 0) i) (by omega) (by first | assumption | omega | decide) (by first | assumption | omega | decide)) gX6_spun_X6_tickMany rfl (by decide +kernel) (by rw [hR]; exact ⟨Nat.le_of_ble_eq_true rfl, Nat.le_of_ble_eq_true rfl⟩) [0, 1, 2, 3, 4, 5, 6, 7, 10, 11] 0 6 rfl rfl (by decide) rfl [o, xa, fa, wa, la, ta, ma, sa, ua, ya] (fun _ => rfl) rfl rfl rfl (Nat.le_of_ble_eq_true rfl) dX6_spun_39 ⟨Nat.zero_le _, Nat.zero_le _⟩ (fun u_1 H locs hw => ?_)
        obtain ⟨K1_u_1, rfl⟩ : ∃ z, z = u_1 := ⟨_, rfl⟩
        have hw : g_W D A s [(o, .inr (6, [.int 0, u1, u2, .ref xa, .int (nI nw), .int (nI nf), .ref fa, u7, u8, u9, u10, .ref pa, .ref va, .ref ua, .ref ya, u15, u16, u17, u18, u19, u20, u21, u22, u23, u24, u25, u26, .ref wa, .ref la, .ref ta, .int (rS K1_u_1), .int (rN K1_u_1), .float (rH K1_u_1), .ref ma, u34, .ref sa])), (xa, .inl (E 0, 12, .inl (g_tv 0))), (fa, .inl (E 0, 18, .inl fl)), (wa, .inl (E 0, 3, .inl (rW K1_u_1))), (la, .inl (E 1, 4, .inr (.inr (.inl (rP K1_u_1))))), (ta, .inl (E 1, 4, .inr (.inr (.inl (rT K1_u_1))))), (ma, .inl (E 1, 3, .inr (.inr (.inl (rM K1_u_1))))), (sa, .inl (E 0, 9, .inl (g_tv 1))), (pa, .inl (E 0, 29, .inl (pgF S))), (va, .inl (E 1, 5, .inr (.inr (.inl (fl5 S))))), (ua, .inl (E 0, 29, .inl (pgF (tkN nw nf fl (x3F 0 0 0) (tkN nw nf fl (x3F 0 0 0) S i) 1)))), (ya, .inl (E 1, 5, .inr (.inr (.inl (fl5 (tkN nw nf fl (x3F 0 0 0) (tkN nw nf fl (x3F 0 0 0) S i) 1))))))] H locs := hw
        refine lv_iinc (v := nI (i + 1)) (lv' := [(1, .int (nI (i + 1))), (0, .ref o)]) hx hb dX6_spun_42 hl (k := 1) rfl (n_inc1 rfl) (by decide) rfl (fun ls hl => ?_)
        refine lv_goto (tgt := 11) hx hb dX6_spun_45 (by decide) ?_
        have hw : g_W D A s [(o, .inr (6, [.int 0, u1, u2, .ref xa, .int (nI nw), .int (nI nf), .ref fa, u7, u8, u9, u10, .ref pa, .ref va, .ref ua, .ref ya, u15, u16, u17, u18, u19, u20, u21, u22, u23, u24, u25, u26, .ref wa, .ref la, .ref ta, .int (rS K1_u_1), .int (rN K1_u_1), .float (rH K1_u_1), .ref ma, u34, .ref sa])), (xa, .inl (E 0, 12, .inl (g_tv 0))), (fa, .inl (E 0, 18, .inl fl)), (wa, .inl (E 0, 3, .inl (rW K1_u_1))), (la, .inl (E 1, 4, .inr (.inr (.inl (rP K1_u_1))))), (ta, .inl (E 1, 4, .inr (.inr (.inl (rT K1_u_1))))), (ma, .inl (E 1, 3, .inr (.inr (.inl (rM K1_u_1))))), (sa, .inl (E 0, 9, .inl (g_tv 1))), (pa, .inl (E 0, 29, .inl (pgF S))), (va, .inl (E 1, 5, .inr (.inr (.inl (fl5 S))))), (ua, .inl (E 0, 29, .inl (pgF (tkN nw nf fl (x3F 0 0 0) S (i + 1))))), (ya, .inl (E 1, 5, .inr (.inr (.inl (fl5 (tkN nw nf fl (x3F 0 0 0) S (i + 1)))))))] H locs := by
          exact hw
        exact ih (i + 1) (by omega) K1_u_1 (all_f hall (decide_eq_false c_24)) _ _ _ hw (lv_sub hl [1, 0] rfl)
      · skip
        refine lv_iload_n hx hb dX6_spun_27 rfl (lv_at hl 1 rfl) ?_
        exact g_iretE (K1, (tkN nw nf fl (x3F 0 0 0) S i)) hQ hc hw hr (by exact congrArg (fun z => some (Value.int z)) (sfI_some hall (decide_eq_true c_24) (by omega))) rfl dX6_spun_28
  have hw : g_W D A s [(o, .inr (6, [.int 0, u1, u2, .ref xa, .int (nI nw), .int (nI nf), .ref fa, u7, u8, u9, u10, .ref pa, .ref va, .ref ua, .ref ya, u15, u16, u17, u18, u19, u20, u21, u22, u23, u24, u25, u26, .ref wa, .ref la, .ref ta, .int (rS K), .int (rN K), .float (rH K), .ref ma, u34, .ref sa])), (xa, .inl (E 0, 12, .inl (g_tv 0))), (fa, .inl (E 0, 18, .inl fl)), (wa, .inl (E 0, 3, .inl (rW K))), (la, .inl (E 1, 4, .inr (.inr (.inl (rP K))))), (ta, .inl (E 1, 4, .inr (.inr (.inl (rT K))))), (ma, .inl (E 1, 3, .inr (.inr (.inl (rM K))))), (sa, .inl (E 0, 9, .inl (g_tv 1))), (pa, .inl (E 0, 29, .inl (pgF S))), (va, .inl (E 1, 5, .inr (.inr (.inl (fl5 S))))), (ua, .inl (E 0, 29, .inl (pgF (tkN nw nf fl (x3F 0 0 0) S 0)))), (ya, .inl (E 1, 5, .inr (.inr (.inl (fl5 (tkN nw nf fl (x3F 0 0 0) S 0))))))] H locs := by
    exact hw
  exact J11 61 0 (by omega) K (fun j hj => absurd hj (Nat.not_lt_zero j)) _ _ _ hw (lv_sub hl [1, 0] rfl)

theorem dX6_dumps_0 : decode cX6_dumps 0 = .ok (.aload_n 0, 1) := by decide +kernel
theorem dX6_dumps_1 : decode cX6_dumps 1 = .ok (.iconst 0, 1) := by decide +kernel
theorem dX6_dumps_2 : decode cX6_dumps 2 = .ok (.putfield 88, 3) := by decide +kernel
theorem dX6_dumps_5 : decode cX6_dumps 5 = .ok (.iconst 0, 1) := by decide +kernel
theorem dX6_dumps_6 : decode cX6_dumps 6 = .ok (.istore_n 1, 1) := by decide +kernel
theorem dX6_dumps_7 : decode cX6_dumps 7 = .ok (.fconst 0, 1) := by decide +kernel
theorem dX6_dumps_8 : decode cX6_dumps 8 = .ok (.fstore_n 2, 1) := by decide +kernel
theorem dX6_dumps_9 : decode cX6_dumps 9 = .ok (.iconst 0, 1) := by decide +kernel
theorem dX6_dumps_10 : decode cX6_dumps 10 = .ok (.istore_n 3, 1) := by decide +kernel
theorem dX6_dumps_11 : decode cX6_dumps 11 = .ok (.iload_n 3, 1) := by decide +kernel
theorem dX6_dumps_12 : decode cX6_dumps 12 = .ok (.bipush 10, 2) := by decide +kernel
theorem dX6_dumps_14 : decode cX6_dumps 14 = .ok (.if_icmp .ge 90, 3) := by decide +kernel
theorem dX6_dumps_17 : decode cX6_dumps 17 = .ok (.aload_n 0, 1) := by decide +kernel
theorem dX6_dumps_18 : decode cX6_dumps 18 = .ok (.invokevirtual 248, 3) := by decide +kernel
theorem dX6_dumps_21 : decode cX6_dumps 21 = .ok (.aload_n 0, 1) := by decide +kernel
theorem dX6_dumps_22 : decode cX6_dumps 22 = .ok (.getfield 32, 3) := by decide +kernel
theorem dX6_dumps_25 : decode cX6_dumps 25 = .ok (.bipush 9, 2) := by decide +kernel
theorem dX6_dumps_27 : decode cX6_dumps 27 = .ok (.iload_n 3, 1) := by decide +kernel
theorem dX6_dumps_28 : decode cX6_dumps 28 = .ok (.iastore, 1) := by decide +kernel
theorem dX6_dumps_29 : decode cX6_dumps 29 = .ok (.aload_n 0, 1) := by decide +kernel
theorem dX6_dumps_30 : decode cX6_dumps 30 = .ok (.aload_n 0, 1) := by decide +kernel
theorem dX6_dumps_31 : decode cX6_dumps 31 = .ok (.getfield 32, 3) := by decide +kernel
theorem dX6_dumps_34 : decode cX6_dumps 34 = .ok (.aload_n 0, 1) := by decide +kernel
theorem dX6_dumps_35 : decode cX6_dumps 35 = .ok (.getfield 35, 3) := by decide +kernel
theorem dX6_dumps_38 : decode cX6_dumps 38 = .ok (.bipush 12, 2) := by decide +kernel
theorem dX6_dumps_40 : decode cX6_dumps 40 = .ok (.invokevirtual 234, 3) := by decide +kernel
theorem dX6_dumps_43 : decode cX6_dumps 43 = .ok (.aload_n 0, 1) := by decide +kernel
theorem dX6_dumps_44 : decode cX6_dumps 44 = .ok (.aload_n 0, 1) := by decide +kernel
theorem dX6_dumps_45 : decode cX6_dumps 45 = .ok (.getfield 35, 3) := by decide +kernel
theorem dX6_dumps_48 : decode cX6_dumps 48 = .ok (.invokevirtual 184, 3) := by decide +kernel
theorem dX6_dumps_51 : decode cX6_dumps 51 = .ok (.aload_n 0, 1) := by decide +kernel
theorem dX6_dumps_52 : decode cX6_dumps 52 = .ok (.getfield 75, 3) := by decide +kernel
theorem dX6_dumps_55 : decode cX6_dumps 55 = .ok (.iconst 0, 1) := by decide +kernel
theorem dX6_dumps_56 : decode cX6_dumps 56 = .ok (.faload, 1) := by decide +kernel
theorem dX6_dumps_57 : decode cX6_dumps 57 = .ok (.invokestatic 155, 3) := by decide +kernel
theorem dX6_dumps_60 : decode cX6_dumps 60 = .ok (.aload_n 0, 1) := by decide +kernel
theorem dX6_dumps_61 : decode cX6_dumps 61 = .ok (.getfield 75, 3) := by decide +kernel
theorem dX6_dumps_64 : decode cX6_dumps 64 = .ok (.iconst 1, 1) := by decide +kernel
theorem dX6_dumps_65 : decode cX6_dumps 65 = .ok (.faload, 1) := by decide +kernel
theorem dX6_dumps_66 : decode cX6_dumps 66 = .ok (.invokestatic 155, 3) := by decide +kernel
theorem dX6_dumps_69 : decode cX6_dumps 69 = .ok (.fadd, 1) := by decide +kernel
theorem dX6_dumps_70 : decode cX6_dumps 70 = .ok (.aload_n 0, 1) := by decide +kernel
theorem dX6_dumps_71 : decode cX6_dumps 71 = .ok (.getfield 75, 3) := by decide +kernel
theorem dX6_dumps_74 : decode cX6_dumps 74 = .ok (.iconst 2, 1) := by decide +kernel
theorem dX6_dumps_75 : decode cX6_dumps 75 = .ok (.faload, 1) := by decide +kernel
theorem dX6_dumps_76 : decode cX6_dumps 76 = .ok (.invokestatic 155, 3) := by decide +kernel
theorem dX6_dumps_79 : decode cX6_dumps 79 = .ok (.fadd, 1) := by decide +kernel
theorem dX6_dumps_80 : decode cX6_dumps 80 = .ok (.fstore 4, 2) := by decide +kernel
theorem dX6_dumps_82 : decode cX6_dumps 82 = .ok (.iload_n 3, 1) := by decide +kernel
theorem dX6_dumps_83 : decode cX6_dumps 83 = .ok (.ifCond .eq 10, 3) := by decide +kernel
theorem dX6_dumps_86 : decode cX6_dumps 86 = .ok (.fload 4, 2) := by decide +kernel
theorem dX6_dumps_88 : decode cX6_dumps 88 = .ok (.fload_n 2, 1) := by decide +kernel
theorem dX6_dumps_89 : decode cX6_dumps 89 = .ok (.fcmp .g, 1) := by decide +kernel
theorem dX6_dumps_90 : decode cX6_dumps 90 = .ok (.ifCond .ge 8, 3) := by decide +kernel
theorem dX6_dumps_93 : decode cX6_dumps 93 = .ok (.iload_n 3, 1) := by decide +kernel
theorem dX6_dumps_94 : decode cX6_dumps 94 = .ok (.istore_n 1, 1) := by decide +kernel
theorem dX6_dumps_95 : decode cX6_dumps 95 = .ok (.fload 4, 2) := by decide +kernel
theorem dX6_dumps_97 : decode cX6_dumps 97 = .ok (.fstore_n 2, 1) := by decide +kernel
theorem dX6_dumps_98 : decode cX6_dumps 98 = .ok (.iinc 3 1, 3) := by decide +kernel
theorem dX6_dumps_101 : decode cX6_dumps 101 = .ok (.goto (-90), 3) := by decide +kernel
theorem dX6_dumps_104 : decode cX6_dumps 104 = .ok (.iload_n 1, 1) := by decide +kernel
theorem dX6_dumps_105 : decode cX6_dumps 105 = .ok (.ireturn, 1) := by decide +kernel
set_option maxRecDepth 20000 in
theorem ggX6_dumps_X6_layTrial : GoodIn wsX6_dumps wsX6_layTrial := goodIn_r _ [9, 2, 10, 3, 11, 90, 91, 92, 93, 94, 95, 96, 97, 98, 99, 100, 101, 102, 103, 104, 105, 106, 107, 108, 109, 110, 111, 112, 113, 114, 115, 116, 117, 118, 119, 120, 121, 122, 123, 124, 125] rfl (by decide +kernel)
set_option maxRecDepth 20000 in
theorem gX6_dumps_X6_layTrial : GoodIn wsX6_dumps (wsV RX6 248 RX6 yX6_layTrial wsX6_layTrial) := goodIn_app (goodIn_of _ (by decide +kernel)) ggX6_dumps_X6_layTrial
set_option maxRecDepth 20000 in
theorem ggX6_dumps_X6_tickMany : GoodIn wsX6_dumps wsX6_tickMany := goodIn_r _ [15, 16, 17, 18, 8, 19, 20, 21, 22, 23, 24, 25, 26, 27, 28, 29, 30, 31, 32, 33, 34, 35, 36, 37, 38, 39, 40, 41, 42, 43, 44, 45, 46, 47, 48, 49, 50, 51, 52, 53, 54, 55, 56, 57, 58, 59, 60, 61, 62, 63, 64, 65, 66, 67, 68, 69, 70, 71, 72, 73, 74, 75, 76, 77, 78, 79, 80, 4, 81, 82, 83, 84, 85, 86, 87, 88, 89, 90, 91, 92, 93, 94, 95, 96, 97, 98, 99, 100, 101, 102, 103, 104, 105, 106, 107, 108, 109, 110, 111, 112, 113, 114, 115, 116, 117, 118, 119, 120, 121, 122, 123, 124, 125] rfl (by decide +kernel)
set_option maxRecDepth 20000 in
theorem gX6_dumps_X6_tickMany : GoodIn wsX6_dumps (wsV RX6 234 RX6 yX6_tickMany wsX6_tickMany) := goodIn_app (goodIn_of _ (by decide +kernel)) ggX6_dumps_X6_tickMany
set_option maxRecDepth 20000 in
theorem ggX6_dumps_X6_layMomentum : GoodIn wsX6_dumps wsX6_layMomentum := goodIn_r _ [86, 4, 60, 90, 91, 92, 93, 94, 95, 96, 97, 98, 99, 100, 101, 102, 103, 104, 105, 106, 107, 108, 109, 110, 111, 112, 113, 114, 115, 116, 117, 118, 119, 120, 121, 122, 123, 124, 125] rfl (by decide +kernel)
set_option maxRecDepth 20000 in
theorem gX6_dumps_X6_layMomentum : GoodIn wsX6_dumps (wsV RX6 184 RX6 yX6_layMomentum wsX6_layMomentum) := goodIn_app (goodIn_of _ (by decide +kernel)) ggX6_dumps_X6_layMomentum
set_option maxRecDepth 20000 in
theorem ggX6_dumps_X6_size : GoodIn wsX6_dumps wsX6_size := goodIn_r _ [67] rfl (by decide +kernel)
set_option maxRecDepth 20000 in
theorem gX6_dumps_X6_size : GoodIn wsX6_dumps (va_wsS RX6 155 yX6_size wsX6_size) := goodIn_app (goodIn_of _ (by decide +kernel)) ggX6_dumps_X6_size
theorem inX6_dumps_X6 : ∀ w ∈ u_ws RX6 TX6 36, w ∈ wsX6_dumps := fun w h => List.mem_cons_of_mem _ (List.mem_append_right _ h)
set_option maxRecDepth 100000 in
set_option maxHeartbeats 4000000 in
theorem m_X6_dumps {l : Launch} {D : va_G} {E : Nat → ClassId} {T : Nat → Nat} (o : Nat) (xa : Nat) (fa : Nat) (wa : Nat) (la : Nat) (ta : Nat) (ma : Nat) (sa : Nat) (nw : Nat) (nf : Nat) (pa : Nat) (va : Nat) (ua : Nat) (ya : Nat) (B : Nat) (u0 : Value) (u1 : Value) (u2 : Value) (u7 : Value) (u8 : Value) (u9 : Value) (u10 : Value) (u15 : Value) (u16 : Value) (u17 : Value) (u18 : Value) (u19 : Value) (u20 : Value) (u21 : Value) (u22 : Value) (u23 : Value) (u24 : Value) (u25 : Value) (u26 : Value) (u34 : Value) (fl : Nat → Int32) (S : TS) (U : TS) (K : RJ) (hok : OkS B S) (hB : B + 300 < 2 ^ 31) (hnw : nw ≤ 6) (hnf : nf ≤ 6) : g_ME l D E T yX6_dumps wsX6_dumps 7 173 [.ref o] [(o, .inr (6, [u0, u1, u2, .ref xa, .int (nI nw), .int (nI nf), .ref fa, u7, u8, u9, u10, .ref pa, .ref va, .ref ua, .ref ya, u15, u16, u17, u18, u19, u20, u21, u22, u23, u24, u25, u26, .ref wa, .ref la, .ref ta, .int (rS K), .int (rN K), .float (rH K), .ref ma, u34, .ref sa])), (xa, .inl (E 0, 12, .inl (g_tv 0))), (fa, .inl (E 0, 18, .inl fl)), (wa, .inl (E 0, 3, .inl (rW K))), (la, .inl (E 1, 4, .inr (.inr (.inl (rP K))))), (ta, .inl (E 1, 4, .inr (.inr (.inl (rT K))))), (ma, .inl (E 1, 3, .inr (.inr (.inl (rM K))))), (sa, .inl (E 0, 9, .inl (g_tv 1))), (pa, .inl (E 0, 29, .inl (pgF S))), (va, .inl (E 1, 5, .inr (.inr (.inl (fl5 S))))), (ua, .inl (E 0, 29, .inl (pgF U))), (ya, .inl (E 1, 5, .inr (.inr (.inl (fl5 U)))))] (fun (y9 : RJ × TS) => [(o, .inr (6, [.int 0, u1, u2, .ref xa, .int (nI nw), .int (nI nf), .ref fa, u7, u8, u9, u10, .ref pa, .ref va, .ref ua, .ref ya, u15, u16, u17, u18, u19, u20, u21, u22, u23, u24, u25, u26, .ref wa, .ref la, .ref ta, .int (rS y9.1), .int (rN y9.1), .float (rH y9.1), .ref ma, u34, .ref sa])), (xa, .inl (E 0, 12, .inl (g_tv 0))), (fa, .inl (E 0, 18, .inl fl)), (wa, .inl (E 0, 3, .inl (rW y9.1))), (la, .inl (E 1, 4, .inr (.inr (.inl (rP y9.1))))), (ta, .inl (E 1, 4, .inr (.inr (.inl (rT y9.1))))), (ma, .inl (E 1, 3, .inr (.inr (.inl (rM y9.1))))), (sa, .inl (E 0, 9, .inl (g_tv 1))), (pa, .inl (E 0, 29, .inl (pgF S))), (va, .inl (E 1, 5, .inr (.inr (.inl (fl5 S))))), (ua, .inl (E 0, 29, .inl (pgF y9.2))), (ya, .inl (E 1, 5, .inr (.inr (.inl (fl5 y9.2)))))]) (some (.int (nI (duA nw nf fl (x3F 0 0 0) S 10).1))) := by
  refine g_ME.of (cc := cX6_dumps) (nL := 5) (ret := (some .int)) (own := RX6) (lv := [(0, .ref o)]) (by decide) rfl rfl (Nat.le_of_ble_eq_true rfl) rfl ?_
  intro p e R s m args below meth c A Q H locs ls hR hQ hc hr hw hl
  have hx := hc.1
  have hb := hc.2.1
  have hts := hc.2.2.2.1
  have hown := hc.2.2.2.2.1
  refine lv_aload_n hx hb dX6_dumps_0 rfl (lv_at hl 0 rfl) ?_
  refine lv_iconst (v := 0) hx hb dX6_dumps_1 (by decide) ?_
  refine g_put (TT := TX6) hc hw inX6_dumps_X6 tyX6 tyX6_ok nmX6 0 0 1 rfl rfl (by decide) rfl rfl rfl rfl (Nat.le_of_ble_eq_true rfl) dX6_dumps_2 (fun H locs hw => ?_)
  have hw : g_W D A s [(o, .inr (6, [.int 0, u1, u2, .ref xa, .int (nI nw), .int (nI nf), .ref fa, u7, u8, u9, u10, .ref pa, .ref va, .ref ua, .ref ya, u15, u16, u17, u18, u19, u20, u21, u22, u23, u24, u25, u26, .ref wa, .ref la, .ref ta, .int (rS K), .int (rN K), .float (rH K), .ref ma, u34, .ref sa])), (xa, .inl (E 0, 12, .inl (g_tv 0))), (fa, .inl (E 0, 18, .inl fl)), (wa, .inl (E 0, 3, .inl (rW K))), (la, .inl (E 1, 4, .inr (.inr (.inl (rP K))))), (ta, .inl (E 1, 4, .inr (.inr (.inl (rT K))))), (ma, .inl (E 1, 3, .inr (.inr (.inl (rM K))))), (sa, .inl (E 0, 9, .inl (g_tv 1))), (pa, .inl (E 0, 29, .inl (pgF S))), (va, .inl (E 1, 5, .inr (.inr (.inl (fl5 S))))), (ua, .inl (E 0, 29, .inl (pgF U))), (ya, .inl (E 1, 5, .inr (.inr (.inl (fl5 U)))))] H locs := hw
  refine lv_iconst (v := 0) hx hb dX6_dumps_5 (by decide) ?_
  refine lv_istore_n (lv' := [(1, .int 0), (0, .ref o)]) hx hb dX6_dumps_6 rfl hl (by decide) rfl (fun ls hl => ?_)
  refine lv_fconst0 hx hb dX6_dumps_7 ?_
  refine lv_fstore_n (lv' := [(2, .float FP.fconst0), (1, .int 0), (0, .ref o)]) hx hb dX6_dumps_8 rfl hl (by decide) rfl (fun ls hl => ?_)
  refine lv_iconst (v := 0) hx hb dX6_dumps_9 (by decide) ?_
  refine lv_istore_n (lv' := [(3, .int 0), (2, .float FP.fconst0), (1, .int 0), (0, .ref o)]) hx hb dX6_dumps_10 rfl hl (by decide) rfl (fun ls hl => ?_)
  have J11 : ∀ (k9 : Nat) (i : Nat), i + k9 = 10 → ∀ (K1 : RJ) (U1 : TS), ∀ (H : Heap) (locs : List Loc) (ls : Array Slot), g_W D A s [(o, .inr (6, [.int 0, u1, u2, .ref xa, .int (nI nw), .int (nI nf), .ref fa, u7, u8, u9, u10, .ref pa, .ref va, .ref ua, .ref ya, u15, u16, u17, u18, u19, u20, u21, u22, u23, u24, u25, u26, .ref wa, .ref la, .ref ta, .int (rS K1), .int (rN K1), .float (rH K1), .ref ma, u34, .ref sa])), (xa, .inl (E 0, 12, .inl (g_tv 0))), (fa, .inl (E 0, 18, .inl fl)), (wa, .inl (E 0, 3, .inl (rW K1))), (la, .inl (E 1, 4, .inr (.inr (.inl (rP K1))))), (ta, .inl (E 1, 4, .inr (.inr (.inl (rT K1))))), (ma, .inl (E 1, 3, .inr (.inr (.inl (rM K1))))), (sa, .inl (E 0, 9, .inl (g_tv 1))), (pa, .inl (E 0, 29, .inl (pgF S))), (va, .inl (E 1, 5, .inr (.inr (.inl (fl5 S))))), (ua, .inl (E 0, 29, .inl (pgF U1))), (ya, .inl (E 1, 5, .inr (.inr (.inl (fl5 U1)))))] H locs → lv_has ls 5 [(0, .ref o), (1, .int (nI ((duA nw nf fl (x3F 0 0 0) S i).1))), (2, .float ((duA nw nf fl (x3F 0 0 0) S i).2)), (3, .int (nI i))] → W p l e R s m args below meth c H locs 0 0 Q (F0 m 11 ls []) := by
    intro k9
    induction k9 with
    | zero =>
      intro i h9 K1 U1  H locs ls hw hl
      have h9 : i = 10 := h9
      subst h9
      refine lv_iload_n hx hb dX6_dumps_11 rfl (lv_at hl 3 rfl) ?_
      refine lv_bipush (v := 10) hx hb dX6_dumps_12 (by decide) ?_
      refine lv_icmp_ge (tgt := 104) hx hb dX6_dumps_14 (by decide) (fun c_14 => ?_) (fun c_14 => absurd (by first | exact Int32.le_refl _ | decide) c_14)
      refine lv_iload_n hx hb dX6_dumps_104 rfl (lv_at hl 1 rfl) ?_
      exact g_iretE (K1, U1) hQ hc hw hr rfl rfl dX6_dumps_105
    | succ k9 ih =>
      intro i h9 K1 U1  H locs ls hw hl
      have h9b : i < 10 := by omega
      refine lv_iload_n hx hb dX6_dumps_11 rfl (lv_at hl 3 rfl) ?_
      refine lv_bipush (v := 10) hx hb dX6_dumps_12 (by decide) ?_
      refine lv_icmp_ge (tgt := 104) hx hb dX6_dumps_14 (by decide) (fun c_14 => absurd c_14 (nI_ge h9b (by decide))) (fun c_14 => ?_)
      refine lv_aload_n hx hb dX6_dumps_17 rfl (lv_at hl 0 rfl) ?_
      refine g_cV (As := []) (n := 0) (rest := []) (wc := [(o, .inr (6, [.int 0, u1, u2, .ref xa, .int (nI nw), .int (nI nf), .ref fa, u7, u8, u9, u10, .ref pa, .ref va, .ref ua, .ref ya, u15, u16, u17, u18, u19, u20, u21, u22, u23, u24, u25, u26, .ref wa, .ref la, .ref ta, .int (rS K1), .int (rN K1), .float (rH K1), .ref ma, u34, .ref sa])), (pa, .inl (E 0, 29, .inl (pgF S))), (va, .inl (E 1, 5, .inr (.inr (.inl (fl5 S))))), (ua, .inl (E 0, 29, .inl (pgF U1))), (ya, .inl (E 1, 5, .inr (.inr (.inl (fl5 U1)))))]) (w1 := [(o, .inr (6, [.int 0, u1, u2, .ref xa, .int (nI nw), .int (nI nf), .ref fa, u7, u8, u9, u10, .ref pa, .ref va, .ref ua, .ref ya, u15, u16, u17, u18, u19, u20, u21, u22, u23, u24, u25, u26, .ref wa, .ref la, .ref ta, .int (rS K1), .int (rN K1), .float (rH K1), .ref ma, u34, .ref sa])), (pa, .inl (E 0, 29, .inl (pgF S))), (va, .inl (E 1, 5, .inr (.inr (.inl (fl5 S))))), (ua, .inl (E 0, 29, .inl (pgF S))), (ya, .inl (E 1, 5, .inr (.inr (.inl (fl5 S)))))]) (bytes := cX6_layTrial) (maxL := 2) (ret := none) hc hw hl.1 (m_X6_layTrial (l := l) (D := D) (E := E) (T := T) o (.int 0) u1 u2 (.ref xa) (.int (nI nw)) (.int (nI nf)) (.ref fa) u7 u8 u9 u10 u15 u16 u17 u18 u19 u20 u21 u22 u23 u24 u25 u26 (.ref wa) (.ref la) (.ref ta) (.int (rS K1)) (.int (rN K1)) (.float (rH K1)) (.ref ma) u34 (.ref sa) pa va ua ya (pgF S) (fl5 S) (pgF U1) (fl5 U1)) gX6_dumps_X6_layTrial rfl (by decide +kernel) (by rw [hR]; exact ⟨Nat.le_of_ble_eq_true rfl, Nat.le_of_ble_eq_true rfl⟩) [0, 8, 9, 10, 11] 0 6 rfl rfl (by decide) rfl [o, pa, va, ua, ya] rfl rfl rfl rfl (Nat.le_of_ble_eq_true rfl) dX6_dumps_18 ⟨Nat.zero_le _, Nat.zero_le _⟩ (fun H locs hw => ?_)
      have hw : g_W D A s [(o, .inr (6, [.int 0, u1, u2, .ref xa, .int (nI nw), .int (nI nf), .ref fa, u7, u8, u9, u10, .ref pa, .ref va, .ref ua, .ref ya, u15, u16, u17, u18, u19, u20, u21, u22, u23, u24, u25, u26, .ref wa, .ref la, .ref ta, .int (rS K1), .int (rN K1), .float (rH K1), .ref ma, u34, .ref sa])), (xa, .inl (E 0, 12, .inl (g_tv 0))), (fa, .inl (E 0, 18, .inl fl)), (wa, .inl (E 0, 3, .inl (rW K1))), (la, .inl (E 1, 4, .inr (.inr (.inl (rP K1))))), (ta, .inl (E 1, 4, .inr (.inr (.inl (rT K1))))), (ma, .inl (E 1, 3, .inr (.inr (.inl (rM K1))))), (sa, .inl (E 0, 9, .inl (g_tv 1))), (pa, .inl (E 0, 29, .inl (pgF S))), (va, .inl (E 1, 5, .inr (.inr (.inl (fl5 S))))), (ua, .inl (E 0, 29, .inl (pgF S))), (ya, .inl (E 1, 5, .inr (.inr (.inl (fl5 S)))))] H locs := hw
      refine lv_aload_n hx hb dX6_dumps_21 rfl (lv_at hl 0 rfl) ?_
      refine g_get (TT := TX6) hc hw inX6_dumps_X6 0 13 2 rfl rfl (by decide) rfl rfl dX6_dumps_22 ?_
      refine lv_bipush (v := 9) hx hb dX6_dumps_25 (by decide) ?_
      refine lv_iload_n hx hb dX6_dumps_27 rfl (lv_at hl 3 rfl) ?_
      refine g_ist hc hw 10 9 rfl rfl (by omega) (by decide) dX6_dumps_28 (fun H locs hw => ?_)
      have hw : g_W D A s [(o, .inr (6, [.int 0, u1, u2, .ref xa, .int (nI nw), .int (nI nf), .ref fa, u7, u8, u9, u10, .ref pa, .ref va, .ref ua, .ref ya, u15, u16, u17, u18, u19, u20, u21, u22, u23, u24, u25, u26, .ref wa, .ref la, .ref ta, .int (rS K1), .int (rN K1), .float (rH K1), .ref ma, u34, .ref sa])), (xa, .inl (E 0, 12, .inl (g_tv 0))), (fa, .inl (E 0, 18, .inl fl)), (wa, .inl (E 0, 3, .inl (rW K1))), (la, .inl (E 1, 4, .inr (.inr (.inl (rP K1))))), (ta, .inl (E 1, 4, .inr (.inr (.inl (rT K1))))), (ma, .inl (E 1, 3, .inr (.inr (.inl (rM K1))))), (sa, .inl (E 0, 9, .inl (g_tv 1))), (pa, .inl (E 0, 29, .inl (pgF S))), (va, .inl (E 1, 5, .inr (.inr (.inl (fl5 S))))), (ua, .inl (E 0, 29, .inl (upd (pgF S) 9 (nI i)))), (ya, .inl (E 1, 5, .inr (.inr (.inl (fl5 S)))))] H locs := hw
      rw [pg_T9] at hw
      have hw : g_W D A s [(o, .inr (6, [.int 0, u1, u2, .ref xa, .int (nI nw), .int (nI nf), .ref fa, u7, u8, u9, u10, .ref pa, .ref va, .ref ua, .ref ya, u15, u16, u17, u18, u19, u20, u21, u22, u23, u24, u25, u26, .ref wa, .ref la, .ref ta, .int (rS K1), .int (rN K1), .float (rH K1), .ref ma, u34, .ref sa])), (xa, .inl (E 0, 12, .inl (g_tv 0))), (fa, .inl (E 0, 18, .inl fl)), (wa, .inl (E 0, 3, .inl (rW K1))), (la, .inl (E 1, 4, .inr (.inr (.inl (rP K1))))), (ta, .inl (E 1, 4, .inr (.inr (.inl (rT K1))))), (ma, .inl (E 1, 3, .inr (.inr (.inl (rM K1))))), (sa, .inl (E 0, 9, .inl (g_tv 1))), (pa, .inl (E 0, 29, .inl (pgF S))), (va, .inl (E 1, 5, .inr (.inr (.inl (fl5 S))))), (ua, .inl (E 0, 29, .inl (pgF (stS S 2 (nI i))))), (ya, .inl (E 1, 5, .inr (.inr (.inl (fl5 S)))))] H locs := hw
      refine lv_aload_n hx hb dX6_dumps_29 rfl (lv_at hl 0 rfl) ?_
      refine lv_aload_n hx hb dX6_dumps_30 rfl (lv_at hl 0 rfl) ?_
      refine g_get (TT := TX6) hc hw inX6_dumps_X6 0 13 2 rfl rfl (by decide) rfl rfl dX6_dumps_31 ?_
      refine lv_aload_n hx hb dX6_dumps_34 rfl (lv_at hl 0 rfl) ?_
      refine g_get (TT := TX6) hc hw inX6_dumps_X6 0 14 3 rfl rfl (by decide) rfl rfl dX6_dumps_35 ?_
      refine lv_bipush (v := 12) hx hb dX6_dumps_38 (by decide) ?_
      refine g_cEV (As := [.ref ua, .ref ya, .int 12]) (n := 3) (rest := []) (wc := [(o, .inr (6, [.int 0, u1, u2, .ref xa, .int (nI nw), .int (nI nf), .ref fa, u7, u8, u9, u10, .ref pa, .ref va, .ref ua, .ref ya, u15, u16, u17, u18, u19, u20, u21, u22, u23, u24, u25, u26, .ref wa, .ref la, .ref ta, .int (rS K1), .int (rN K1), .float (rH K1), .ref ma, u34, .ref sa])), (xa, .inl (E 0, 12, .inl (g_tv 0))), (fa, .inl (E 0, 18, .inl fl)), (wa, .inl (E 0, 3, .inl (rW K1))), (la, .inl (E 1, 4, .inr (.inr (.inl (rP K1))))), (ta, .inl (E 1, 4, .inr (.inr (.inl (rT K1))))), (ma, .inl (E 1, 3, .inr (.inr (.inl (rM K1))))), (sa, .inl (E 0, 9, .inl (g_tv 1))), (ua, .inl (E 0, 29, .inl (pgF (stS S 2 (nI i))))), (ya, .inl (E 1, 5, .inr (.inr (.inl (fl5 (stS S 2 (nI i)))))))]) (w1 := (fun (K1 : RJ) => [(o, .inr (6, [.int 0, u1, u2, .ref xa, .int (nI nw), .int (nI nf), .ref fa, u7, u8, u9, u10, .ref pa, .ref va, .ref ua, .ref ya, u15, u16, u17, u18, u19, u20, u21, u22, u23, u24, u25, u26, .ref wa, .ref la, .ref ta, .int (rS K1), .int (rN K1), .float (rH K1), .ref ma, u34, .ref sa])), (xa, .inl (E 0, 12, .inl (g_tv 0))), (fa, .inl (E 0, 18, .inl fl)), (wa, .inl (E 0, 3, .inl (rW K1))), (la, .inl (E 1, 4, .inr (.inr (.inl (rP K1))))), (ta, .inl (E 1, 4, .inr (.inr (.inl (rT K1))))), (ma, .inl (E 1, 3, .inr (.inr (.inl (rM K1))))), (sa, .inl (E 0, 9, .inl (g_tv 1))), (ua, .inl (E 0, 29, .inl (pgF (tkN nw nf fl (x3F 0 0 0) (stS S 2 (nI i)) 12)))), (ya, .inl (E 1, 5, .inr (.inr (.inl (fl5 (tkN nw nf fl (x3F 0 0 0) (stS S 2 (nI i)) 12))))))])) (bytes := cX6_tickMany) (maxL := 5) (ret := none) hc hw hl.1 (m_X6_tickMany_x (l := l) (D := D) (E := E) (T := T) o xa fa wa la ta ma sa ua ya nw nf B (.int 0) u1 u2 u7 u8 u9 u10 (.ref pa) (.ref va) (.ref ua) (.ref ya) u15 u16 u17 u18 u19 u20 u21 u22 u23 u24 u25 u26 u34 fl (stS S 2 (nI i)) K1 12 (hok.st (k := 2) (v := nI i) (by decide)) (by omega) (by first | assumption | omega | decide) (by first | assumption | omega | decide)) gX6_dumps_X6_tickMany rfl (by decide +kernel) (by rw [hR]; exact ⟨Nat.le_of_ble_eq_true rfl, Nat.le_of_ble_eq_true rfl⟩) [0, 1, 2, 3, 4, 5, 6, 7, 10, 11] 0 6 rfl rfl (by decide) rfl [o, xa, fa, wa, la, ta, ma, sa, ua, ya] (fun _ => rfl) rfl rfl rfl (Nat.le_of_ble_eq_true rfl) dX6_dumps_40 ⟨Nat.zero_le _, Nat.zero_le _⟩ (fun u_1 H locs hw => ?_)
      obtain ⟨K1_u_1, rfl⟩ : ∃ z, z = u_1 := ⟨_, rfl⟩
      have hw : g_W D A s [(o, .inr (6, [.int 0, u1, u2, .ref xa, .int (nI nw), .int (nI nf), .ref fa, u7, u8, u9, u10, .ref pa, .ref va, .ref ua, .ref ya, u15, u16, u17, u18, u19, u20, u21, u22, u23, u24, u25, u26, .ref wa, .ref la, .ref ta, .int (rS K1_u_1), .int (rN K1_u_1), .float (rH K1_u_1), .ref ma, u34, .ref sa])), (xa, .inl (E 0, 12, .inl (g_tv 0))), (fa, .inl (E 0, 18, .inl fl)), (wa, .inl (E 0, 3, .inl (rW K1_u_1))), (la, .inl (E 1, 4, .inr (.inr (.inl (rP K1_u_1))))), (ta, .inl (E 1, 4, .inr (.inr (.inl (rT K1_u_1))))), (ma, .inl (E 1, 3, .inr (.inr (.inl (rM K1_u_1))))), (sa, .inl (E 0, 9, .inl (g_tv 1))), (pa, .inl (E 0, 29, .inl (pgF S))), (va, .inl (E 1, 5, .inr (.inr (.inl (fl5 S))))), (ua, .inl (E 0, 29, .inl (pgF (tkN nw nf fl (x3F 0 0 0) (stS S 2 (nI i)) 12)))), (ya, .inl (E 1, 5, .inr (.inr (.inl (fl5 (tkN nw nf fl (x3F 0 0 0) (stS S 2 (nI i)) 12))))))] H locs := hw
      have hT := (hok.st (k := 2) (v := nI i) (by decide)).tn nw nf fl (x3F 0 0 0) 12
      have hfT := hT.f
      refine lv_aload_n hx hb dX6_dumps_43 rfl (lv_at hl 0 rfl) ?_
      refine lv_aload_n hx hb dX6_dumps_44 rfl (lv_at hl 0 rfl) ?_
      refine g_get (TT := TX6) hc hw inX6_dumps_X6 0 14 3 rfl rfl (by decide) rfl rfl dX6_dumps_45 ?_
      refine g_cV (As := [.ref ya]) (n := 1) (rest := []) (wc := [(o, .inr (6, [.int 0, u1, u2, .ref xa, .int (nI nw), .int (nI nf), .ref fa, u7, u8, u9, u10, .ref pa, .ref va, .ref ua, .ref ya, u15, u16, u17, u18, u19, u20, u21, u22, u23, u24, u25, u26, .ref wa, .ref la, .ref ta, .int (rS K1_u_1), .int (rN K1_u_1), .float (rH K1_u_1), .ref ma, u34, .ref sa])), (xa, .inl (E 0, 12, .inl (g_tv 0))), (ma, .inl (E 1, 3, .inr (.inr (.inl (rM K1_u_1))))), (ya, .inl (E 1, 5, .inr (.inr (.inl (fl5 (tkN nw nf fl (x3F 0 0 0) (stS S 2 (nI i)) 12))))))]) (w1 := [(o, .inr (6, [.int 0, u1, u2, .ref xa, .int (nI nw), .int (nI nf), .ref fa, u7, u8, u9, u10, .ref pa, .ref va, .ref ua, .ref ya, u15, u16, u17, u18, u19, u20, u21, u22, u23, u24, u25, u26, .ref wa, .ref la, .ref ta, .int (rS K1_u_1), .int (rN K1_u_1), .float (rH K1_u_1), .ref ma, u34, .ref sa])), (xa, .inl (E 0, 12, .inl (g_tv 0))), (ma, .inl (E 1, 3, .inr (.inr (.inl (moF (sF (tkN nw nf fl (x3F 0 0 0) (stS S 2 (nI i)) 12))))))), (ya, .inl (E 1, 5, .inr (.inr (.inl (fl5 (tkN nw nf fl (x3F 0 0 0) (stS S 2 (nI i)) 12))))))]) (bytes := cX6_layMomentum) (maxL := 3) (ret := none) hc hw hl.1 (m_X6_layMomentum (l := l) (D := D) (E := E) (T := T) o xa ma ya (B + 12) (.int 0) u1 u2 (.int (nI nw)) (.int (nI nf)) (.ref fa) u7 u8 u9 u10 (.ref pa) (.ref va) (.ref ua) (.ref ya) u15 u16 u17 u18 u19 u20 u21 u22 u23 u24 u25 u26 (.ref wa) (.ref la) (.ref ta) (.int (rS K1_u_1)) (.int (rN K1_u_1)) (.float (rH K1_u_1)) u34 (.ref sa) (tkN nw nf fl (x3F 0 0 0) (stS S 2 (nI i)) 12) (rM K1_u_1) hT) gX6_dumps_X6_layMomentum rfl (by decide +kernel) (by rw [hR]; exact ⟨Nat.le_of_ble_eq_true rfl, Nat.le_of_ble_eq_true rfl⟩) [0, 1, 6, 11] 0 6 rfl rfl (by decide) rfl [o, xa, ma, ya] rfl rfl rfl rfl (Nat.le_of_ble_eq_true rfl) dX6_dumps_48 ⟨Nat.zero_le _, Nat.zero_le _⟩ (fun H locs hw => ?_)
      have hw : g_W D A s [(o, .inr (6, [.int 0, u1, u2, .ref xa, .int (nI nw), .int (nI nf), .ref fa, u7, u8, u9, u10, .ref pa, .ref va, .ref ua, .ref ya, u15, u16, u17, u18, u19, u20, u21, u22, u23, u24, u25, u26, .ref wa, .ref la, .ref ta, .int (rS K1_u_1), .int (rN K1_u_1), .float (rH K1_u_1), .ref ma, u34, .ref sa])), (xa, .inl (E 0, 12, .inl (g_tv 0))), (fa, .inl (E 0, 18, .inl fl)), (wa, .inl (E 0, 3, .inl (rW K1_u_1))), (la, .inl (E 1, 4, .inr (.inr (.inl (rP K1_u_1))))), (ta, .inl (E 1, 4, .inr (.inr (.inl (rT K1_u_1))))), (ma, .inl (E 1, 3, .inr (.inr (.inl (moF (sF (tkN nw nf fl (x3F 0 0 0) (stS S 2 (nI i)) 12))))))), (sa, .inl (E 0, 9, .inl (g_tv 1))), (pa, .inl (E 0, 29, .inl (pgF S))), (va, .inl (E 1, 5, .inr (.inr (.inl (fl5 S))))), (ua, .inl (E 0, 29, .inl (pgF (tkN nw nf fl (x3F 0 0 0) (stS S 2 (nI i)) 12)))), (ya, .inl (E 1, 5, .inr (.inr (.inl (fl5 (tkN nw nf fl (x3F 0 0 0) (stS S 2 (nI i)) 12))))))] H locs := hw
      refine lv_aload_n hx hb dX6_dumps_51 rfl (lv_at hl 0 rfl) ?_
      refine g_get (TT := TX6) hc hw inX6_dumps_X6 0 33 4 rfl rfl (by decide) rfl rfl dX6_dumps_52 ?_
      refine lv_iconst (v := 0) hx hb dX6_dumps_55 (by decide) ?_
      refine g_fld hc hw 6 0 rfl rfl (by omega) (by decide) dX6_dumps_56 ?_
      refine g_cS (As := [.float ((moF (sF (tkN nw nf fl (x3F 0 0 0) (stS S 2 (nI i)) 12))) 0)]) (n := 1) (rest := []) (wc := []) (w1 := []) (bytes := cX6_size) (maxL := 1) (ret := (some .float)) hc hw hl.1 (m_X6_size (l := l) (D := D) (E := E) (T := T) ((moF (sF (tkN nw nf fl (x3F 0 0 0) (stS S 2 (nI i)) 12))) 0)) gX6_dumps_X6_size rfl (by decide +kernel) (by rw [hR]; exact ⟨Nat.le_of_ble_eq_true rfl, Nat.le_of_ble_eq_true rfl⟩) [] (by decide) rfl [] rfl rfl rfl rfl (Nat.le_of_ble_eq_true rfl) dX6_dumps_57 ⟨Nat.zero_le _, Nat.zero_le _⟩ (fun H locs hw => ?_)
      have hw : g_W D A s [(o, .inr (6, [.int 0, u1, u2, .ref xa, .int (nI nw), .int (nI nf), .ref fa, u7, u8, u9, u10, .ref pa, .ref va, .ref ua, .ref ya, u15, u16, u17, u18, u19, u20, u21, u22, u23, u24, u25, u26, .ref wa, .ref la, .ref ta, .int (rS K1_u_1), .int (rN K1_u_1), .float (rH K1_u_1), .ref ma, u34, .ref sa])), (xa, .inl (E 0, 12, .inl (g_tv 0))), (fa, .inl (E 0, 18, .inl fl)), (wa, .inl (E 0, 3, .inl (rW K1_u_1))), (la, .inl (E 1, 4, .inr (.inr (.inl (rP K1_u_1))))), (ta, .inl (E 1, 4, .inr (.inr (.inl (rT K1_u_1))))), (ma, .inl (E 1, 3, .inr (.inr (.inl (moF (sF (tkN nw nf fl (x3F 0 0 0) (stS S 2 (nI i)) 12))))))), (sa, .inl (E 0, 9, .inl (g_tv 1))), (pa, .inl (E 0, 29, .inl (pgF S))), (va, .inl (E 1, 5, .inr (.inr (.inl (fl5 S))))), (ua, .inl (E 0, 29, .inl (pgF (tkN nw nf fl (x3F 0 0 0) (stS S 2 (nI i)) 12)))), (ya, .inl (E 1, 5, .inr (.inr (.inl (fl5 (tkN nw nf fl (x3F 0 0 0) (stS S 2 (nI i)) 12))))))] H locs := hw
      refine lv_aload_n hx hb dX6_dumps_60 rfl (lv_at hl 0 rfl) ?_
      refine g_get (TT := TX6) hc hw inX6_dumps_X6 0 33 4 rfl rfl (by decide) rfl rfl dX6_dumps_61 ?_
      refine lv_iconst (v := 1) hx hb dX6_dumps_64 (by decide) ?_
      refine g_fld hc hw 6 1 rfl rfl (by omega) (by decide) dX6_dumps_65 ?_
      refine g_cS (As := [.float ((moF (sF (tkN nw nf fl (x3F 0 0 0) (stS S 2 (nI i)) 12))) 1)]) (n := 1) (rest := [.float (fsz ((moF (sF (tkN nw nf fl (x3F 0 0 0) (stS S 2 (nI i)) 12))) 0))]) (wc := []) (w1 := []) (bytes := cX6_size) (maxL := 1) (ret := (some .float)) hc hw hl.1 (m_X6_size (l := l) (D := D) (E := E) (T := T) ((moF (sF (tkN nw nf fl (x3F 0 0 0) (stS S 2 (nI i)) 12))) 1)) gX6_dumps_X6_size rfl (by decide +kernel) (by rw [hR]; exact ⟨Nat.le_of_ble_eq_true rfl, Nat.le_of_ble_eq_true rfl⟩) [] (by decide) rfl [] rfl rfl rfl rfl (Nat.le_of_ble_eq_true rfl) dX6_dumps_66 ⟨Nat.zero_le _, Nat.zero_le _⟩ (fun H locs hw => ?_)
      have hw : g_W D A s [(o, .inr (6, [.int 0, u1, u2, .ref xa, .int (nI nw), .int (nI nf), .ref fa, u7, u8, u9, u10, .ref pa, .ref va, .ref ua, .ref ya, u15, u16, u17, u18, u19, u20, u21, u22, u23, u24, u25, u26, .ref wa, .ref la, .ref ta, .int (rS K1_u_1), .int (rN K1_u_1), .float (rH K1_u_1), .ref ma, u34, .ref sa])), (xa, .inl (E 0, 12, .inl (g_tv 0))), (fa, .inl (E 0, 18, .inl fl)), (wa, .inl (E 0, 3, .inl (rW K1_u_1))), (la, .inl (E 1, 4, .inr (.inr (.inl (rP K1_u_1))))), (ta, .inl (E 1, 4, .inr (.inr (.inl (rT K1_u_1))))), (ma, .inl (E 1, 3, .inr (.inr (.inl (moF (sF (tkN nw nf fl (x3F 0 0 0) (stS S 2 (nI i)) 12))))))), (sa, .inl (E 0, 9, .inl (g_tv 1))), (pa, .inl (E 0, 29, .inl (pgF S))), (va, .inl (E 1, 5, .inr (.inr (.inl (fl5 S))))), (ua, .inl (E 0, 29, .inl (pgF (tkN nw nf fl (x3F 0 0 0) (stS S 2 (nI i)) 12)))), (ya, .inl (E 1, 5, .inr (.inr (.inl (fl5 (tkN nw nf fl (x3F 0 0 0) (stS S 2 (nI i)) 12))))))] H locs := hw
      refine lv_fadd hx hb dX6_dumps_69 (g_nn (g_mgadd (Ka := 143) (Kb := 143) (K := 143) (g_mgsz (g_mgmo (k := 0) hfT (by omega))) (g_mgsz (g_mgmo (k := 1) hfT (by omega))) (by decide) (by decide) (by decide)) (by decide)) ?_
      refine lv_aload_n hx hb dX6_dumps_70 rfl (lv_at hl 0 rfl) ?_
      refine g_get (TT := TX6) hc hw inX6_dumps_X6 0 33 4 rfl rfl (by decide) rfl rfl dX6_dumps_71 ?_
      refine lv_iconst (v := 2) hx hb dX6_dumps_74 (by decide) ?_
      refine g_fld hc hw 6 2 rfl rfl (by omega) (by decide) dX6_dumps_75 ?_
      refine g_cS (As := [.float ((moF (sF (tkN nw nf fl (x3F 0 0 0) (stS S 2 (nI i)) 12))) 2)]) (n := 1) (rest := [.float (FP.fadd (fsz ((moF (sF (tkN nw nf fl (x3F 0 0 0) (stS S 2 (nI i)) 12))) 0)) (fsz ((moF (sF (tkN nw nf fl (x3F 0 0 0) (stS S 2 (nI i)) 12))) 1)))]) (wc := []) (w1 := []) (bytes := cX6_size) (maxL := 1) (ret := (some .float)) hc hw hl.1 (m_X6_size (l := l) (D := D) (E := E) (T := T) ((moF (sF (tkN nw nf fl (x3F 0 0 0) (stS S 2 (nI i)) 12))) 2)) gX6_dumps_X6_size rfl (by decide +kernel) (by rw [hR]; exact ⟨Nat.le_of_ble_eq_true rfl, Nat.le_of_ble_eq_true rfl⟩) [] (by decide) rfl [] rfl rfl rfl rfl (Nat.le_of_ble_eq_true rfl) dX6_dumps_76 ⟨Nat.zero_le _, Nat.zero_le _⟩ (fun H locs hw => ?_)
      have hw : g_W D A s [(o, .inr (6, [.int 0, u1, u2, .ref xa, .int (nI nw), .int (nI nf), .ref fa, u7, u8, u9, u10, .ref pa, .ref va, .ref ua, .ref ya, u15, u16, u17, u18, u19, u20, u21, u22, u23, u24, u25, u26, .ref wa, .ref la, .ref ta, .int (rS K1_u_1), .int (rN K1_u_1), .float (rH K1_u_1), .ref ma, u34, .ref sa])), (xa, .inl (E 0, 12, .inl (g_tv 0))), (fa, .inl (E 0, 18, .inl fl)), (wa, .inl (E 0, 3, .inl (rW K1_u_1))), (la, .inl (E 1, 4, .inr (.inr (.inl (rP K1_u_1))))), (ta, .inl (E 1, 4, .inr (.inr (.inl (rT K1_u_1))))), (ma, .inl (E 1, 3, .inr (.inr (.inl (moF (sF (tkN nw nf fl (x3F 0 0 0) (stS S 2 (nI i)) 12))))))), (sa, .inl (E 0, 9, .inl (g_tv 1))), (pa, .inl (E 0, 29, .inl (pgF S))), (va, .inl (E 1, 5, .inr (.inr (.inl (fl5 S))))), (ua, .inl (E 0, 29, .inl (pgF (tkN nw nf fl (x3F 0 0 0) (stS S 2 (nI i)) 12)))), (ya, .inl (E 1, 5, .inr (.inr (.inl (fl5 (tkN nw nf fl (x3F 0 0 0) (stS S 2 (nI i)) 12))))))] H locs := hw
      refine lv_fadd hx hb dX6_dumps_79 (g_nn (g_mgadd (Ka := 145) (Kb := 143) (K := 145) (g_mgadd (Ka := 143) (Kb := 143) (K := 143) (g_mgsz (g_mgmo (k := 0) hfT (by omega))) (g_mgsz (g_mgmo (k := 1) hfT (by omega))) (by decide) (by decide) (by decide)) (g_mgsz (g_mgmo (k := 2) hfT (by omega))) (by decide) (by decide) (by decide)) (by decide)) ?_
      refine W.eq (congrArg (fun z => F0 m 80 ls (.float z :: [])) (show (FP.fadd (FP.fadd (fsz ((moF (sF (tkN nw nf fl (x3F 0 0 0) (stS S 2 (nI i)) 12))) 0)) (fsz ((moF (sF (tkN nw nf fl (x3F 0 0 0) (stS S 2 (nI i)) 12))) 1))) (fsz ((moF (sF (tkN nw nf fl (x3F 0 0 0) (stS S 2 (nI i)) 12))) 2)) : UInt32) = duZ nw nf fl (x3F 0 0 0) S i from rfl)) ?_
      refine lv_fstore (lv' := [(4, .float (duZ nw nf fl (x3F 0 0 0) S i)), (0, .ref o), (1, .int (nI ((duA nw nf fl (x3F 0 0 0) S i).1))), (2, .float ((duA nw nf fl (x3F 0 0 0) S i).2)), (3, .int (nI i))]) hx hb dX6_dumps_80 hl (by decide) rfl (fun ls hl => ?_)
      refine lv_iload_n hx hb dX6_dumps_82 rfl (lv_at hl 4 rfl) ?_
      refine lv_if_eq (tgt := 93) hx hb dX6_dumps_83 (by decide) (fun c_83 => ?_) (fun c_83 => ?_)
      · skip
        have h83 : i = 0 := (nI_eq (by omega) (by decide)).mp (show nI i = nI 0 from c_83)
        refine lv_iload_n hx hb dX6_dumps_93 rfl (lv_at hl 4 rfl) ?_
        refine lv_istore_n (lv' := [(1, .int (nI i)), (4, .float (duZ nw nf fl (x3F 0 0 0) S i)), (0, .ref o), (2, .float ((duA nw nf fl (x3F 0 0 0) S i).2)), (3, .int (nI i))]) hx hb dX6_dumps_94 rfl hl (by decide) rfl (fun ls hl => ?_)
        refine lv_fload hx hb dX6_dumps_95 (lv_at hl 1 rfl) ?_
        refine lv_fstore_n (lv' := [(2, .float (duZ nw nf fl (x3F 0 0 0) S i)), (1, .int (nI i)), (4, .float (duZ nw nf fl (x3F 0 0 0) S i)), (0, .ref o), (3, .int (nI i))]) hx hb dX6_dumps_97 rfl hl (by decide) rfl (fun ls hl => ?_)
        refine lv_iinc (v := nI (i + 1)) (lv' := [(3, .int (nI (i + 1))), (2, .float (duZ nw nf fl (x3F 0 0 0) S i)), (1, .int (nI i)), (4, .float (duZ nw nf fl (x3F 0 0 0) S i)), (0, .ref o)]) hx hb dX6_dumps_98 hl (k := 4) rfl (n_inc1 rfl) (by decide) rfl (fun ls hl => ?_)
        refine lv_goto (tgt := 11) hx hb dX6_dumps_101 (by decide) ?_
        have hw : g_W D A s [(o, .inr (6, [.int 0, u1, u2, .ref xa, .int (nI nw), .int (nI nf), .ref fa, u7, u8, u9, u10, .ref pa, .ref va, .ref ua, .ref ya, u15, u16, u17, u18, u19, u20, u21, u22, u23, u24, u25, u26, .ref wa, .ref la, .ref ta, .int (rS (rW K1_u_1, rP K1_u_1, rT K1_u_1, rS K1_u_1, rN K1_u_1, rH K1_u_1, moF (sF (tkN nw nf fl (x3F 0 0 0) (stS S 2 (nI i)) 12)))), .int (rN (rW K1_u_1, rP K1_u_1, rT K1_u_1, rS K1_u_1, rN K1_u_1, rH K1_u_1, moF (sF (tkN nw nf fl (x3F 0 0 0) (stS S 2 (nI i)) 12)))), .float (rH (rW K1_u_1, rP K1_u_1, rT K1_u_1, rS K1_u_1, rN K1_u_1, rH K1_u_1, moF (sF (tkN nw nf fl (x3F 0 0 0) (stS S 2 (nI i)) 12)))), .ref ma, u34, .ref sa])), (xa, .inl (E 0, 12, .inl (g_tv 0))), (fa, .inl (E 0, 18, .inl fl)), (wa, .inl (E 0, 3, .inl (rW (rW K1_u_1, rP K1_u_1, rT K1_u_1, rS K1_u_1, rN K1_u_1, rH K1_u_1, moF (sF (tkN nw nf fl (x3F 0 0 0) (stS S 2 (nI i)) 12)))))), (la, .inl (E 1, 4, .inr (.inr (.inl (rP (rW K1_u_1, rP K1_u_1, rT K1_u_1, rS K1_u_1, rN K1_u_1, rH K1_u_1, moF (sF (tkN nw nf fl (x3F 0 0 0) (stS S 2 (nI i)) 12)))))))), (ta, .inl (E 1, 4, .inr (.inr (.inl (rT (rW K1_u_1, rP K1_u_1, rT K1_u_1, rS K1_u_1, rN K1_u_1, rH K1_u_1, moF (sF (tkN nw nf fl (x3F 0 0 0) (stS S 2 (nI i)) 12)))))))), (ma, .inl (E 1, 3, .inr (.inr (.inl (rM (rW K1_u_1, rP K1_u_1, rT K1_u_1, rS K1_u_1, rN K1_u_1, rH K1_u_1, moF (sF (tkN nw nf fl (x3F 0 0 0) (stS S 2 (nI i)) 12)))))))), (sa, .inl (E 0, 9, .inl (g_tv 1))), (pa, .inl (E 0, 29, .inl (pgF S))), (va, .inl (E 1, 5, .inr (.inr (.inl (fl5 S))))), (ua, .inl (E 0, 29, .inl (pgF (tkN nw nf fl (x3F 0 0 0) (stS S 2 (nI i)) 12)))), (ya, .inl (E 1, 5, .inr (.inr (.inl (fl5 (tkN nw nf fl (x3F 0 0 0) (stS S 2 (nI i)) 12))))))] H locs := by
          exact hw
        have hl := lv_conv hl 2 rfl (v' := (.int (nI ((duA nw nf fl (x3F 0 0 0) S (i + 1)).1)))) (by exact congrArg (fun z : Nat × UInt32 => Value.int (nI z.1)) (show (i, duZ nw nf fl (x3F 0 0 0) S i) = duA nw nf fl (x3F 0 0 0) S (i + 1) from (if_pos (Or.inl h83)).symm))
        have hl : lv_has ls 5 [(3, .int (nI (i + 1))), (2, .float (duZ nw nf fl (x3F 0 0 0) S i)), (1, .int (nI ((duA nw nf fl (x3F 0 0 0) S (i + 1)).1))), (4, .float (duZ nw nf fl (x3F 0 0 0) S i)), (0, .ref o)] := hl
        have hl := lv_conv hl 1 rfl (v' := (.float ((duA nw nf fl (x3F 0 0 0) S (i + 1)).2))) (by exact congrArg (fun z : Nat × UInt32 => Value.float z.2) (show (i, duZ nw nf fl (x3F 0 0 0) S i) = duA nw nf fl (x3F 0 0 0) S (i + 1) from (if_pos (Or.inl h83)).symm))
        have hl : lv_has ls 5 [(3, .int (nI (i + 1))), (2, .float ((duA nw nf fl (x3F 0 0 0) S (i + 1)).2)), (1, .int (nI ((duA nw nf fl (x3F 0 0 0) S (i + 1)).1))), (4, .float (duZ nw nf fl (x3F 0 0 0) S i)), (0, .ref o)] := hl
        exact ih (i + 1) (by omega) (rW K1_u_1, rP K1_u_1, rT K1_u_1, rS K1_u_1, rN K1_u_1, rH K1_u_1, moF (sF (tkN nw nf fl (x3F 0 0 0) (stS S 2 (nI i)) 12))) (tkN nw nf fl (x3F 0 0 0) (stS S 2 (nI i)) 12)  _ _ _ hw (lv_sub hl [4, 2, 1, 0] rfl)
      · skip
        have h83 : ¬ i = 0 := fun q => c_83 (by rw [q]; rfl)
        refine lv_fload hx hb dX6_dumps_86 (lv_at hl 0 rfl) ?_
        refine lv_fload_n hx hb dX6_dumps_88 rfl (lv_at hl 3 rfl) ?_
        refine lv_fcmp hx hb dX6_dumps_89 ?_
        refine lv_if_ge (tgt := 98) hx hb dX6_dumps_90 (by decide) (fun c_90 => ?_) (fun c_90 => ?_)
        · skip
          have k_90 := g_cgl c_90
          refine lv_iinc (v := nI (i + 1)) (lv' := [(3, .int (nI (i + 1))), (4, .float (duZ nw nf fl (x3F 0 0 0) S i)), (0, .ref o), (1, .int (nI ((duA nw nf fl (x3F 0 0 0) S i).1))), (2, .float ((duA nw nf fl (x3F 0 0 0) S i).2))]) hx hb dX6_dumps_98 hl (k := 4) rfl (n_inc1 rfl) (by decide) rfl (fun ls hl => ?_)
          refine lv_goto (tgt := 11) hx hb dX6_dumps_101 (by decide) ?_
          have hw : g_W D A s [(o, .inr (6, [.int 0, u1, u2, .ref xa, .int (nI nw), .int (nI nf), .ref fa, u7, u8, u9, u10, .ref pa, .ref va, .ref ua, .ref ya, u15, u16, u17, u18, u19, u20, u21, u22, u23, u24, u25, u26, .ref wa, .ref la, .ref ta, .int (rS (rW K1_u_1, rP K1_u_1, rT K1_u_1, rS K1_u_1, rN K1_u_1, rH K1_u_1, moF (sF (tkN nw nf fl (x3F 0 0 0) (stS S 2 (nI i)) 12)))), .int (rN (rW K1_u_1, rP K1_u_1, rT K1_u_1, rS K1_u_1, rN K1_u_1, rH K1_u_1, moF (sF (tkN nw nf fl (x3F 0 0 0) (stS S 2 (nI i)) 12)))), .float (rH (rW K1_u_1, rP K1_u_1, rT K1_u_1, rS K1_u_1, rN K1_u_1, rH K1_u_1, moF (sF (tkN nw nf fl (x3F 0 0 0) (stS S 2 (nI i)) 12)))), .ref ma, u34, .ref sa])), (xa, .inl (E 0, 12, .inl (g_tv 0))), (fa, .inl (E 0, 18, .inl fl)), (wa, .inl (E 0, 3, .inl (rW (rW K1_u_1, rP K1_u_1, rT K1_u_1, rS K1_u_1, rN K1_u_1, rH K1_u_1, moF (sF (tkN nw nf fl (x3F 0 0 0) (stS S 2 (nI i)) 12)))))), (la, .inl (E 1, 4, .inr (.inr (.inl (rP (rW K1_u_1, rP K1_u_1, rT K1_u_1, rS K1_u_1, rN K1_u_1, rH K1_u_1, moF (sF (tkN nw nf fl (x3F 0 0 0) (stS S 2 (nI i)) 12)))))))), (ta, .inl (E 1, 4, .inr (.inr (.inl (rT (rW K1_u_1, rP K1_u_1, rT K1_u_1, rS K1_u_1, rN K1_u_1, rH K1_u_1, moF (sF (tkN nw nf fl (x3F 0 0 0) (stS S 2 (nI i)) 12)))))))), (ma, .inl (E 1, 3, .inr (.inr (.inl (rM (rW K1_u_1, rP K1_u_1, rT K1_u_1, rS K1_u_1, rN K1_u_1, rH K1_u_1, moF (sF (tkN nw nf fl (x3F 0 0 0) (stS S 2 (nI i)) 12)))))))), (sa, .inl (E 0, 9, .inl (g_tv 1))), (pa, .inl (E 0, 29, .inl (pgF S))), (va, .inl (E 1, 5, .inr (.inr (.inl (fl5 S))))), (ua, .inl (E 0, 29, .inl (pgF (tkN nw nf fl (x3F 0 0 0) (stS S 2 (nI i)) 12)))), (ya, .inl (E 1, 5, .inr (.inr (.inl (fl5 (tkN nw nf fl (x3F 0 0 0) (stS S 2 (nI i)) 12))))))] H locs := by
            exact hw
          have hl := lv_conv hl 3 rfl (v' := (.int (nI ((duA nw nf fl (x3F 0 0 0) S (i + 1)).1)))) (by exact congrArg (fun z : Nat × UInt32 => Value.int (nI z.1)) (show (duA nw nf fl (x3F 0 0 0) S i) = duA nw nf fl (x3F 0 0 0) S (i + 1) from (if_neg (fun q => q.elim h83 (fun z => by rw [k_90] at z; exact absurd z (by decide)))).symm))
          have hl : lv_has ls 5 [(3, .int (nI (i + 1))), (4, .float (duZ nw nf fl (x3F 0 0 0) S i)), (0, .ref o), (1, .int (nI ((duA nw nf fl (x3F 0 0 0) S (i + 1)).1))), (2, .float ((duA nw nf fl (x3F 0 0 0) S i).2))] := hl
          have hl := lv_conv hl 4 rfl (v' := (.float ((duA nw nf fl (x3F 0 0 0) S (i + 1)).2))) (by exact congrArg (fun z : Nat × UInt32 => Value.float z.2) (show (duA nw nf fl (x3F 0 0 0) S i) = duA nw nf fl (x3F 0 0 0) S (i + 1) from (if_neg (fun q => q.elim h83 (fun z => by rw [k_90] at z; exact absurd z (by decide)))).symm))
          have hl : lv_has ls 5 [(3, .int (nI (i + 1))), (4, .float (duZ nw nf fl (x3F 0 0 0) S i)), (0, .ref o), (1, .int (nI ((duA nw nf fl (x3F 0 0 0) S (i + 1)).1))), (2, .float ((duA nw nf fl (x3F 0 0 0) S (i + 1)).2))] := hl
          exact ih (i + 1) (by omega) (rW K1_u_1, rP K1_u_1, rT K1_u_1, rS K1_u_1, rN K1_u_1, rH K1_u_1, moF (sF (tkN nw nf fl (x3F 0 0 0) (stS S 2 (nI i)) 12))) (tkN nw nf fl (x3F 0 0 0) (stS S 2 (nI i)) 12)  _ _ _ hw (lv_sub hl [2, 3, 4, 0] rfl)
        · skip
          have k_90 := g_cgt c_90
          refine lv_iload_n hx hb dX6_dumps_93 rfl (lv_at hl 4 rfl) ?_
          refine lv_istore_n (lv' := [(1, .int (nI i)), (4, .float (duZ nw nf fl (x3F 0 0 0) S i)), (0, .ref o), (2, .float ((duA nw nf fl (x3F 0 0 0) S i).2)), (3, .int (nI i))]) hx hb dX6_dumps_94 rfl hl (by decide) rfl (fun ls hl => ?_)
          refine lv_fload hx hb dX6_dumps_95 (lv_at hl 1 rfl) ?_
          refine lv_fstore_n (lv' := [(2, .float (duZ nw nf fl (x3F 0 0 0) S i)), (1, .int (nI i)), (4, .float (duZ nw nf fl (x3F 0 0 0) S i)), (0, .ref o), (3, .int (nI i))]) hx hb dX6_dumps_97 rfl hl (by decide) rfl (fun ls hl => ?_)
          refine lv_iinc (v := nI (i + 1)) (lv' := [(3, .int (nI (i + 1))), (2, .float (duZ nw nf fl (x3F 0 0 0) S i)), (1, .int (nI i)), (4, .float (duZ nw nf fl (x3F 0 0 0) S i)), (0, .ref o)]) hx hb dX6_dumps_98 hl (k := 4) rfl (n_inc1 rfl) (by decide) rfl (fun ls hl => ?_)
          refine lv_goto (tgt := 11) hx hb dX6_dumps_101 (by decide) ?_
          have hw : g_W D A s [(o, .inr (6, [.int 0, u1, u2, .ref xa, .int (nI nw), .int (nI nf), .ref fa, u7, u8, u9, u10, .ref pa, .ref va, .ref ua, .ref ya, u15, u16, u17, u18, u19, u20, u21, u22, u23, u24, u25, u26, .ref wa, .ref la, .ref ta, .int (rS (rW K1_u_1, rP K1_u_1, rT K1_u_1, rS K1_u_1, rN K1_u_1, rH K1_u_1, moF (sF (tkN nw nf fl (x3F 0 0 0) (stS S 2 (nI i)) 12)))), .int (rN (rW K1_u_1, rP K1_u_1, rT K1_u_1, rS K1_u_1, rN K1_u_1, rH K1_u_1, moF (sF (tkN nw nf fl (x3F 0 0 0) (stS S 2 (nI i)) 12)))), .float (rH (rW K1_u_1, rP K1_u_1, rT K1_u_1, rS K1_u_1, rN K1_u_1, rH K1_u_1, moF (sF (tkN nw nf fl (x3F 0 0 0) (stS S 2 (nI i)) 12)))), .ref ma, u34, .ref sa])), (xa, .inl (E 0, 12, .inl (g_tv 0))), (fa, .inl (E 0, 18, .inl fl)), (wa, .inl (E 0, 3, .inl (rW (rW K1_u_1, rP K1_u_1, rT K1_u_1, rS K1_u_1, rN K1_u_1, rH K1_u_1, moF (sF (tkN nw nf fl (x3F 0 0 0) (stS S 2 (nI i)) 12)))))), (la, .inl (E 1, 4, .inr (.inr (.inl (rP (rW K1_u_1, rP K1_u_1, rT K1_u_1, rS K1_u_1, rN K1_u_1, rH K1_u_1, moF (sF (tkN nw nf fl (x3F 0 0 0) (stS S 2 (nI i)) 12)))))))), (ta, .inl (E 1, 4, .inr (.inr (.inl (rT (rW K1_u_1, rP K1_u_1, rT K1_u_1, rS K1_u_1, rN K1_u_1, rH K1_u_1, moF (sF (tkN nw nf fl (x3F 0 0 0) (stS S 2 (nI i)) 12)))))))), (ma, .inl (E 1, 3, .inr (.inr (.inl (rM (rW K1_u_1, rP K1_u_1, rT K1_u_1, rS K1_u_1, rN K1_u_1, rH K1_u_1, moF (sF (tkN nw nf fl (x3F 0 0 0) (stS S 2 (nI i)) 12)))))))), (sa, .inl (E 0, 9, .inl (g_tv 1))), (pa, .inl (E 0, 29, .inl (pgF S))), (va, .inl (E 1, 5, .inr (.inr (.inl (fl5 S))))), (ua, .inl (E 0, 29, .inl (pgF (tkN nw nf fl (x3F 0 0 0) (stS S 2 (nI i)) 12)))), (ya, .inl (E 1, 5, .inr (.inr (.inl (fl5 (tkN nw nf fl (x3F 0 0 0) (stS S 2 (nI i)) 12))))))] H locs := by
            exact hw
          have hl := lv_conv hl 2 rfl (v' := (.int (nI ((duA nw nf fl (x3F 0 0 0) S (i + 1)).1)))) (by exact congrArg (fun z : Nat × UInt32 => Value.int (nI z.1)) (show (i, duZ nw nf fl (x3F 0 0 0) S i) = duA nw nf fl (x3F 0 0 0) S (i + 1) from (if_pos (Or.inr k_90)).symm))
          have hl : lv_has ls 5 [(3, .int (nI (i + 1))), (2, .float (duZ nw nf fl (x3F 0 0 0) S i)), (1, .int (nI ((duA nw nf fl (x3F 0 0 0) S (i + 1)).1))), (4, .float (duZ nw nf fl (x3F 0 0 0) S i)), (0, .ref o)] := hl
          have hl := lv_conv hl 1 rfl (v' := (.float ((duA nw nf fl (x3F 0 0 0) S (i + 1)).2))) (by exact congrArg (fun z : Nat × UInt32 => Value.float z.2) (show (i, duZ nw nf fl (x3F 0 0 0) S i) = duA nw nf fl (x3F 0 0 0) S (i + 1) from (if_pos (Or.inr k_90)).symm))
          have hl : lv_has ls 5 [(3, .int (nI (i + 1))), (2, .float ((duA nw nf fl (x3F 0 0 0) S (i + 1)).2)), (1, .int (nI ((duA nw nf fl (x3F 0 0 0) S (i + 1)).1))), (4, .float (duZ nw nf fl (x3F 0 0 0) S i)), (0, .ref o)] := hl
          exact ih (i + 1) (by omega) (rW K1_u_1, rP K1_u_1, rT K1_u_1, rS K1_u_1, rN K1_u_1, rH K1_u_1, moF (sF (tkN nw nf fl (x3F 0 0 0) (stS S 2 (nI i)) 12))) (tkN nw nf fl (x3F 0 0 0) (stS S 2 (nI i)) 12)  _ _ _ hw (lv_sub hl [4, 2, 1, 0] rfl)
  have hl := lv_conv hl 2 rfl (v' := (.int (nI ((duA nw nf fl (x3F 0 0 0) S 0).1)))) (by rfl)
  have hl : lv_has ls 5 [(3, .int 0), (2, .float FP.fconst0), (1, .int (nI ((duA nw nf fl (x3F 0 0 0) S 0).1))), (0, .ref o)] := hl
  have hl := lv_conv hl 1 rfl (v' := (.float ((duA nw nf fl (x3F 0 0 0) S 0).2))) (by rfl)
  have hl : lv_has ls 5 [(3, .int 0), (2, .float ((duA nw nf fl (x3F 0 0 0) S 0).2)), (1, .int (nI ((duA nw nf fl (x3F 0 0 0) S 0).1))), (0, .ref o)] := hl
  have hl := lv_conv hl 0 rfl (v' := (.int (nI 0))) (by rfl)
  have hl : lv_has ls 5 [(3, .int (nI 0)), (2, .float ((duA nw nf fl (x3F 0 0 0) S 0).2)), (1, .int (nI ((duA nw nf fl (x3F 0 0 0) S 0).1))), (0, .ref o)] := hl
  exact J11 10 0 (by omega) K U  _ _ _ hw (lv_sub hl [3, 2, 1, 0] rfl)

theorem dX6_worst_0 : decode cX6_worst 0 = .ok (.aload_n 0, 1) := by decide +kernel
theorem dX6_worst_1 : decode cX6_worst 1 = .ok (.iconst 0, 1) := by decide +kernel
theorem dX6_worst_2 : decode cX6_worst 2 = .ok (.putfield 88, 3) := by decide +kernel
theorem dX6_worst_5 : decode cX6_worst 5 = .ok (.bipush (-9), 2) := by decide +kernel
theorem dX6_worst_7 : decode cX6_worst 7 = .ok (.istore_n 1, 1) := by decide +kernel
theorem dX6_worst_8 : decode cX6_worst 8 = .ok (.iconst 0, 1) := by decide +kernel
theorem dX6_worst_9 : decode cX6_worst 9 = .ok (.istore_n 2, 1) := by decide +kernel
theorem dX6_worst_10 : decode cX6_worst 10 = .ok (.iconst 0, 1) := by decide +kernel
theorem dX6_worst_11 : decode cX6_worst 11 = .ok (.istore_n 3, 1) := by decide +kernel
theorem dX6_worst_12 : decode cX6_worst 12 = .ok (.iload_n 3, 1) := by decide +kernel
theorem dX6_worst_13 : decode cX6_worst 13 = .ok (.iconst 4, 1) := by decide +kernel
theorem dX6_worst_14 : decode cX6_worst 14 = .ok (.if_icmp .ge 57, 3) := by decide +kernel
theorem dX6_worst_17 : decode cX6_worst 17 = .ok (.aload_n 0, 1) := by decide +kernel
theorem dX6_worst_18 : decode cX6_worst 18 = .ok (.getfield 25, 3) := by decide +kernel
theorem dX6_worst_21 : decode cX6_worst 21 = .ok (.iconst 0, 1) := by decide +kernel
theorem dX6_worst_22 : decode cX6_worst 22 = .ok (.iaload, 1) := by decide +kernel
theorem dX6_worst_23 : decode cX6_worst 23 = .ok (.iload_n 3, 1) := by decide +kernel
theorem dX6_worst_24 : decode cX6_worst 24 = .ok (.invokestatic 139, 3) := by decide +kernel
theorem dX6_worst_27 : decode cX6_worst 27 = .ok (.ifCond .ne 38, 3) := by decide +kernel
theorem dX6_worst_30 : decode cX6_worst 30 = .ok (.aload_n 0, 1) := by decide +kernel
theorem dX6_worst_31 : decode cX6_worst 31 = .ok (.invokevirtual 248, 3) := by decide +kernel
theorem dX6_worst_34 : decode cX6_worst 34 = .ok (.aload_n 0, 1) := by decide +kernel
theorem dX6_worst_35 : decode cX6_worst 35 = .ok (.getfield 32, 3) := by decide +kernel
theorem dX6_worst_38 : decode cX6_worst 38 = .ok (.iload_n 3, 1) := by decide +kernel
theorem dX6_worst_39 : decode cX6_worst 39 = .ok (.invokestatic 237, 3) := by decide +kernel
theorem dX6_worst_42 : decode cX6_worst 42 = .ok (.aload_n 0, 1) := by decide +kernel
theorem dX6_worst_43 : decode cX6_worst 43 = .ok (.invokevirtual 257, 3) := by decide +kernel
theorem dX6_worst_46 : decode cX6_worst 46 = .ok (.istore 4, 2) := by decide +kernel
theorem dX6_worst_48 : decode cX6_worst 48 = .ok (.iload_n 1, 1) := by decide +kernel
theorem dX6_worst_49 : decode cX6_worst 49 = .ok (.bipush (-9), 2) := by decide +kernel
theorem dX6_worst_51 : decode cX6_worst 51 = .ok (.if_icmp .eq 9, 3) := by decide +kernel
theorem dX6_worst_54 : decode cX6_worst 54 = .ok (.iload 4, 2) := by decide +kernel
theorem dX6_worst_56 : decode cX6_worst 56 = .ok (.iload_n 2, 1) := by decide +kernel
theorem dX6_worst_57 : decode cX6_worst 57 = .ok (.if_icmp .le 8, 3) := by decide +kernel
theorem dX6_worst_60 : decode cX6_worst 60 = .ok (.iload_n 3, 1) := by decide +kernel
theorem dX6_worst_61 : decode cX6_worst 61 = .ok (.istore_n 1, 1) := by decide +kernel
theorem dX6_worst_62 : decode cX6_worst 62 = .ok (.iload 4, 2) := by decide +kernel
theorem dX6_worst_64 : decode cX6_worst 64 = .ok (.istore_n 2, 1) := by decide +kernel
theorem dX6_worst_65 : decode cX6_worst 65 = .ok (.iinc 3 1, 3) := by decide +kernel
theorem dX6_worst_68 : decode cX6_worst 68 = .ok (.goto (-56), 3) := by decide +kernel
theorem dX6_worst_71 : decode cX6_worst 71 = .ok (.iload_n 1, 1) := by decide +kernel
theorem dX6_worst_72 : decode cX6_worst 72 = .ok (.ireturn, 1) := by decide +kernel
set_option maxRecDepth 20000 in
theorem ggX6_worst_X6_has : GoodIn wsX6_worst wsX6_has := goodIn_r _ [7] rfl (by decide +kernel)
set_option maxRecDepth 20000 in
theorem gX6_worst_X6_has : GoodIn wsX6_worst (va_wsS RX6 139 yX6_has wsX6_has) := goodIn_app (goodIn_of _ (by decide +kernel)) ggX6_worst_X6_has
set_option maxRecDepth 20000 in
theorem ggX6_worst_X6_layTrial : GoodIn wsX6_worst wsX6_layTrial := goodIn_r _ [11, 3, 2, 12, 13, 97, 98, 99, 100, 101, 102, 103, 104, 105, 106, 107, 108, 109, 110, 111, 112, 113, 114, 115, 116, 117, 118, 119, 120, 121, 122, 123, 124, 125, 126, 127, 128, 129, 130, 131, 132] rfl (by decide +kernel)
set_option maxRecDepth 20000 in
theorem gX6_worst_X6_layTrial : GoodIn wsX6_worst (wsV RX6 248 RX6 yX6_layTrial wsX6_layTrial) := goodIn_app (goodIn_of _ (by decide +kernel)) ggX6_worst_X6_layTrial
set_option maxRecDepth 20000 in
theorem ggX6_worst_X6_killOn : GoodIn wsX6_worst wsX6_killOn := goodIn_r _ [16, 17, 18, 6, 19] rfl (by decide +kernel)
set_option maxRecDepth 20000 in
theorem gX6_worst_X6_killOn : GoodIn wsX6_worst (va_wsS RX6 237 yX6_killOn wsX6_killOn) := goodIn_app (goodIn_of _ (by decide +kernel)) ggX6_worst_X6_killOn
set_option maxRecDepth 20000 in
theorem ggX6_worst_X6_badOnes : GoodIn wsX6_worst wsX6_badOnes := goodIn_r _ [23, 3, 12, 24, 25, 26, 6, 27, 28, 29, 30, 31, 32, 33, 34, 35, 36, 37, 38, 39, 40, 41, 42, 43, 44, 45, 46, 47, 48, 49, 50, 51, 52, 53, 54, 55, 56, 57, 58, 59, 60, 4, 5, 7, 61, 62, 63, 64, 65, 66, 67, 68, 69, 70, 71, 72, 73, 74, 75, 76, 77, 78, 79, 80, 17, 18, 19, 81, 82, 83, 84, 85, 86, 87, 88, 89, 90, 91, 92, 93, 94, 95, 96, 97, 98, 99, 100, 101, 102, 103, 104, 105, 106, 107, 108, 109, 110, 111, 112, 113, 114, 115, 116, 117, 118, 119, 120, 121, 122, 123, 124, 125, 126, 127, 128, 129, 130, 131, 132] rfl (by decide +kernel)
set_option maxRecDepth 20000 in
theorem gX6_worst_X6_badOnes : GoodIn wsX6_worst (wsV RX6 257 RX6 yX6_badOnes wsX6_badOnes) := goodIn_app (goodIn_of _ (by decide +kernel)) ggX6_worst_X6_badOnes
theorem inX6_worst_X6 : ∀ w ∈ u_ws RX6 TX6 36, w ∈ wsX6_worst := fun w h => List.mem_cons_of_mem _ (List.mem_append_right _ h)
set_option maxRecDepth 100000 in
set_option maxHeartbeats 4000000 in
theorem m_X6_worst {l : Launch} {D : va_G} {E : Nat → ClassId} {T : Nat → Nat} (o : Nat) (xa : Nat) (fa : Nat) (wa : Nat) (la : Nat) (ta : Nat) (ma : Nat) (sa : Nat) (nw : Nat) (nf : Nat) (pa : Nat) (va : Nat) (ua : Nat) (ya : Nat) (B : Nat) (u0 : Value) (u1 : Value) (u2 : Value) (u7 : Value) (u8 : Value) (u9 : Value) (u10 : Value) (u15 : Value) (u16 : Value) (u17 : Value) (u18 : Value) (u19 : Value) (u20 : Value) (u21 : Value) (u22 : Value) (u23 : Value) (u24 : Value) (u25 : Value) (u26 : Value) (u34 : Value) (fl : Nat → Int32) (S : TS) (U : TS) (K : RJ) (hok : OkS B S) (hB : B + 300 < 2 ^ 31) (hnw : nw ≤ 6) (hnf : nf ≤ 6) : g_ME l D E T yX6_worst wsX6_worst 8 194 [.ref o] [(o, .inr (6, [u0, u1, u2, .ref xa, .int (nI nw), .int (nI nf), .ref fa, u7, u8, u9, u10, .ref pa, .ref va, .ref ua, .ref ya, u15, u16, u17, u18, u19, u20, u21, u22, u23, u24, u25, u26, .ref wa, .ref la, .ref ta, .int (rS K), .int (rN K), .float (rH K), .ref ma, u34, .ref sa])), (xa, .inl (E 0, 12, .inl (g_tv 0))), (fa, .inl (E 0, 18, .inl fl)), (wa, .inl (E 0, 3, .inl (rW K))), (la, .inl (E 1, 4, .inr (.inr (.inl (rP K))))), (ta, .inl (E 1, 4, .inr (.inr (.inl (rT K))))), (ma, .inl (E 1, 3, .inr (.inr (.inl (rM K))))), (sa, .inl (E 0, 9, .inl (g_tv 1))), (pa, .inl (E 0, 29, .inl (pgF S))), (va, .inl (E 1, 5, .inr (.inr (.inl (fl5 S))))), (ua, .inl (E 0, 29, .inl (pgF U))), (ya, .inl (E 1, 5, .inr (.inr (.inl (fl5 U)))))] (fun (y9 : RJ × TS) => [(o, .inr (6, [.int 0, u1, u2, .ref xa, .int (nI nw), .int (nI nf), .ref fa, u7, u8, u9, u10, .ref pa, .ref va, .ref ua, .ref ya, u15, u16, u17, u18, u19, u20, u21, u22, u23, u24, u25, u26, .ref wa, .ref la, .ref ta, .int (rS y9.1), .int (rN y9.1), .float (rH y9.1), .ref ma, u34, .ref sa])), (xa, .inl (E 0, 12, .inl (g_tv 0))), (fa, .inl (E 0, 18, .inl fl)), (wa, .inl (E 0, 3, .inl (rW y9.1))), (la, .inl (E 1, 4, .inr (.inr (.inl (rP y9.1))))), (ta, .inl (E 1, 4, .inr (.inr (.inl (rT y9.1))))), (ma, .inl (E 1, 3, .inr (.inr (.inl (rM y9.1))))), (sa, .inl (E 0, 9, .inl (g_tv 1))), (pa, .inl (E 0, 29, .inl (pgF S))), (va, .inl (E 1, 5, .inr (.inr (.inl (fl5 S))))), (ua, .inl (E 0, 29, .inl (pgF y9.2))), (ya, .inl (E 1, 5, .inr (.inr (.inl (fl5 y9.2)))))]) (some (.int ((wrA nw nf fl (x3F 0 0 0) S 4).1))) := by
  refine g_ME.of (cc := cX6_worst) (nL := 5) (ret := (some .int)) (own := RX6) (lv := [(0, .ref o)]) (by decide) rfl rfl (Nat.le_of_ble_eq_true rfl) rfl ?_
  intro p e R s m args below meth c A Q H locs ls hR hQ hc hr hw hl
  have hx := hc.1
  have hb := hc.2.1
  have hts := hc.2.2.2.1
  have hown := hc.2.2.2.2.1
  refine lv_aload_n hx hb dX6_worst_0 rfl (lv_at hl 0 rfl) ?_
  refine lv_iconst (v := 0) hx hb dX6_worst_1 (by decide) ?_
  refine g_put (TT := TX6) hc hw inX6_worst_X6 tyX6 tyX6_ok nmX6 0 0 1 rfl rfl (by decide) rfl rfl rfl rfl (Nat.le_of_ble_eq_true rfl) dX6_worst_2 (fun H locs hw => ?_)
  have hw : g_W D A s [(o, .inr (6, [.int 0, u1, u2, .ref xa, .int (nI nw), .int (nI nf), .ref fa, u7, u8, u9, u10, .ref pa, .ref va, .ref ua, .ref ya, u15, u16, u17, u18, u19, u20, u21, u22, u23, u24, u25, u26, .ref wa, .ref la, .ref ta, .int (rS K), .int (rN K), .float (rH K), .ref ma, u34, .ref sa])), (xa, .inl (E 0, 12, .inl (g_tv 0))), (fa, .inl (E 0, 18, .inl fl)), (wa, .inl (E 0, 3, .inl (rW K))), (la, .inl (E 1, 4, .inr (.inr (.inl (rP K))))), (ta, .inl (E 1, 4, .inr (.inr (.inl (rT K))))), (ma, .inl (E 1, 3, .inr (.inr (.inl (rM K))))), (sa, .inl (E 0, 9, .inl (g_tv 1))), (pa, .inl (E 0, 29, .inl (pgF S))), (va, .inl (E 1, 5, .inr (.inr (.inl (fl5 S))))), (ua, .inl (E 0, 29, .inl (pgF U))), (ya, .inl (E 1, 5, .inr (.inr (.inl (fl5 U)))))] H locs := hw
  refine lv_bipush (v := (-9)) hx hb dX6_worst_5 (by decide) ?_
  refine lv_istore_n (lv' := [(1, .int (-9)), (0, .ref o)]) hx hb dX6_worst_7 rfl hl (by decide) rfl (fun ls hl => ?_)
  refine lv_iconst (v := 0) hx hb dX6_worst_8 (by decide) ?_
  refine lv_istore_n (lv' := [(2, .int 0), (1, .int (-9)), (0, .ref o)]) hx hb dX6_worst_9 rfl hl (by decide) rfl (fun ls hl => ?_)
  refine lv_iconst (v := 0) hx hb dX6_worst_10 (by decide) ?_
  refine lv_istore_n (lv' := [(3, .int 0), (2, .int 0), (1, .int (-9)), (0, .ref o)]) hx hb dX6_worst_11 rfl hl (by decide) rfl (fun ls hl => ?_)
  have J12 : ∀ (k9 : Nat) (i : Nat), i + k9 = 4 → ∀ (K1 : RJ) (U1 : TS), ∀ (H : Heap) (locs : List Loc) (ls : Array Slot), g_W D A s [(o, .inr (6, [.int 0, u1, u2, .ref xa, .int (nI nw), .int (nI nf), .ref fa, u7, u8, u9, u10, .ref pa, .ref va, .ref ua, .ref ya, u15, u16, u17, u18, u19, u20, u21, u22, u23, u24, u25, u26, .ref wa, .ref la, .ref ta, .int (rS K1), .int (rN K1), .float (rH K1), .ref ma, u34, .ref sa])), (xa, .inl (E 0, 12, .inl (g_tv 0))), (fa, .inl (E 0, 18, .inl fl)), (wa, .inl (E 0, 3, .inl (rW K1))), (la, .inl (E 1, 4, .inr (.inr (.inl (rP K1))))), (ta, .inl (E 1, 4, .inr (.inr (.inl (rT K1))))), (ma, .inl (E 1, 3, .inr (.inr (.inl (rM K1))))), (sa, .inl (E 0, 9, .inl (g_tv 1))), (pa, .inl (E 0, 29, .inl (pgF S))), (va, .inl (E 1, 5, .inr (.inr (.inl (fl5 S))))), (ua, .inl (E 0, 29, .inl (pgF U1))), (ya, .inl (E 1, 5, .inr (.inr (.inl (fl5 U1)))))] H locs → lv_has ls 5 [(0, .ref o), (1, .int ((wrA nw nf fl (x3F 0 0 0) S i).1)), (2, .int ((wrA nw nf fl (x3F 0 0 0) S i).2)), (3, .int (nI i))] → W p l e R s m args below meth c H locs 0 0 Q (F0 m 12 ls []) := by
    intro k9
    induction k9 with
    | zero =>
      intro i h9 K1 U1  H locs ls hw hl
      have h9 : i = 4 := h9
      subst h9
      refine lv_iload_n hx hb dX6_worst_12 rfl (lv_at hl 3 rfl) ?_
      refine lv_iconst (v := 4) hx hb dX6_worst_13 (by decide) ?_
      refine lv_icmp_ge (tgt := 71) hx hb dX6_worst_14 (by decide) (fun c_14 => ?_) (fun c_14 => absurd (by first | exact Int32.le_refl _ | decide) c_14)
      refine lv_iload_n hx hb dX6_worst_71 rfl (lv_at hl 1 rfl) ?_
      exact g_iretE (K1, U1) hQ hc hw hr rfl rfl dX6_worst_72
    | succ k9 ih =>
      intro i h9 K1 U1  H locs ls hw hl
      have h9b : i < 4 := by omega
      refine lv_iload_n hx hb dX6_worst_12 rfl (lv_at hl 3 rfl) ?_
      refine lv_iconst (v := 4) hx hb dX6_worst_13 (by decide) ?_
      refine lv_icmp_ge (tgt := 71) hx hb dX6_worst_14 (by decide) (fun c_14 => absurd c_14 (nI_ge h9b (by decide))) (fun c_14 => ?_)
      refine lv_aload_n hx hb dX6_worst_17 rfl (lv_at hl 0 rfl) ?_
      refine g_get (TT := TX6) hc hw inX6_worst_X6 0 11 2 rfl rfl (by decide) rfl rfl dX6_worst_18 ?_
      refine lv_iconst (v := 0) hx hb dX6_worst_21 (by decide) ?_
      refine g_ild hc hw 8 0 rfl rfl (by omega) (by decide) dX6_worst_22 ?_
      refine W.eq (congrArg (fun z => F0 m 23 ls (.int z :: [])) (show ((pgF S) 0 : Int32) = nI (sD S) from rfl)) ?_
      refine lv_iload_n hx hb dX6_worst_23 rfl (lv_at hl 3 rfl) ?_
      refine g_cS (As := [.int (nI (sD S)), .int (nI i)]) (n := 2) (rest := []) (wc := []) (w1 := []) (bytes := cX6_has) (maxL := 2) (ret := (some .boolean)) hc hw hl.1 (m_X6_has (l := l) (D := D) (E := E) (T := T) (sD S) i hok.d (by omega)) gX6_worst_X6_has rfl (by decide +kernel) (by rw [hR]; exact ⟨Nat.le_of_ble_eq_true rfl, Nat.le_of_ble_eq_true rfl⟩) [] (by decide) rfl [] rfl rfl rfl rfl (Nat.le_of_ble_eq_true rfl) dX6_worst_24 ⟨Nat.zero_le _, Nat.zero_le _⟩ (fun H locs hw => ?_)
      have hw : g_W D A s [(o, .inr (6, [.int 0, u1, u2, .ref xa, .int (nI nw), .int (nI nf), .ref fa, u7, u8, u9, u10, .ref pa, .ref va, .ref ua, .ref ya, u15, u16, u17, u18, u19, u20, u21, u22, u23, u24, u25, u26, .ref wa, .ref la, .ref ta, .int (rS K1), .int (rN K1), .float (rH K1), .ref ma, u34, .ref sa])), (xa, .inl (E 0, 12, .inl (g_tv 0))), (fa, .inl (E 0, 18, .inl fl)), (wa, .inl (E 0, 3, .inl (rW K1))), (la, .inl (E 1, 4, .inr (.inr (.inl (rP K1))))), (ta, .inl (E 1, 4, .inr (.inr (.inl (rT K1))))), (ma, .inl (E 1, 3, .inr (.inr (.inl (rM K1))))), (sa, .inl (E 0, 9, .inl (g_tv 1))), (pa, .inl (E 0, 29, .inl (pgF S))), (va, .inl (E 1, 5, .inr (.inr (.inl (fl5 S))))), (ua, .inl (E 0, 29, .inl (pgF U1))), (ya, .inl (E 1, 5, .inr (.inr (.inl (fl5 U1)))))] H locs := hw
      refine lv_if_ne (tgt := 65) hx hb dX6_worst_27 (by decide) (fun c_27 => ?_) (fun c_27 => ?_)
      · skip
        have k_27 := b2i_ne c_27
        refine lv_iinc (v := nI (i + 1)) (lv' := [(3, .int (nI (i + 1))), (0, .ref o), (1, .int ((wrA nw nf fl (x3F 0 0 0) S i).1)), (2, .int ((wrA nw nf fl (x3F 0 0 0) S i).2))]) hx hb dX6_worst_65 hl (k := 3) rfl (n_inc1 rfl) (by decide) rfl (fun ls hl => ?_)
        refine lv_goto (tgt := 12) hx hb dX6_worst_68 (by decide) ?_
        have hl := lv_conv hl 2 rfl (v' := (.int ((wrA nw nf fl (x3F 0 0 0) S (i + 1)).1))) (by exact congrArg Value.int (by rw [wrA, if_neg (fun q => by rw [k_27] at q; exact absurd q.1 (by decide))]))
        have hl : lv_has ls 5 [(3, .int (nI (i + 1))), (0, .ref o), (1, .int ((wrA nw nf fl (x3F 0 0 0) S (i + 1)).1)), (2, .int ((wrA nw nf fl (x3F 0 0 0) S i).2))] := hl
        have hl := lv_conv hl 3 rfl (v' := (.int ((wrA nw nf fl (x3F 0 0 0) S (i + 1)).2))) (by exact congrArg Value.int (by rw [wrA, if_neg (fun q => by rw [k_27] at q; exact absurd q.1 (by decide))]))
        have hl : lv_has ls 5 [(3, .int (nI (i + 1))), (0, .ref o), (1, .int ((wrA nw nf fl (x3F 0 0 0) S (i + 1)).1)), (2, .int ((wrA nw nf fl (x3F 0 0 0) S (i + 1)).2))] := hl
        exact ih (i + 1) (by omega) K1 U1  _ _ _ hw (lv_sub hl [1, 2, 3, 0] rfl)
      · skip
        have k_27 := b2i_eq c_27
        refine lv_aload_n hx hb dX6_worst_30 rfl (lv_at hl 0 rfl) ?_
        refine g_cV (As := []) (n := 0) (rest := []) (wc := [(o, .inr (6, [.int 0, u1, u2, .ref xa, .int (nI nw), .int (nI nf), .ref fa, u7, u8, u9, u10, .ref pa, .ref va, .ref ua, .ref ya, u15, u16, u17, u18, u19, u20, u21, u22, u23, u24, u25, u26, .ref wa, .ref la, .ref ta, .int (rS K1), .int (rN K1), .float (rH K1), .ref ma, u34, .ref sa])), (pa, .inl (E 0, 29, .inl (pgF S))), (va, .inl (E 1, 5, .inr (.inr (.inl (fl5 S))))), (ua, .inl (E 0, 29, .inl (pgF U1))), (ya, .inl (E 1, 5, .inr (.inr (.inl (fl5 U1)))))]) (w1 := [(o, .inr (6, [.int 0, u1, u2, .ref xa, .int (nI nw), .int (nI nf), .ref fa, u7, u8, u9, u10, .ref pa, .ref va, .ref ua, .ref ya, u15, u16, u17, u18, u19, u20, u21, u22, u23, u24, u25, u26, .ref wa, .ref la, .ref ta, .int (rS K1), .int (rN K1), .float (rH K1), .ref ma, u34, .ref sa])), (pa, .inl (E 0, 29, .inl (pgF S))), (va, .inl (E 1, 5, .inr (.inr (.inl (fl5 S))))), (ua, .inl (E 0, 29, .inl (pgF S))), (ya, .inl (E 1, 5, .inr (.inr (.inl (fl5 S)))))]) (bytes := cX6_layTrial) (maxL := 2) (ret := none) hc hw hl.1 (m_X6_layTrial (l := l) (D := D) (E := E) (T := T) o (.int 0) u1 u2 (.ref xa) (.int (nI nw)) (.int (nI nf)) (.ref fa) u7 u8 u9 u10 u15 u16 u17 u18 u19 u20 u21 u22 u23 u24 u25 u26 (.ref wa) (.ref la) (.ref ta) (.int (rS K1)) (.int (rN K1)) (.float (rH K1)) (.ref ma) u34 (.ref sa) pa va ua ya (pgF S) (fl5 S) (pgF U1) (fl5 U1)) gX6_worst_X6_layTrial rfl (by decide +kernel) (by rw [hR]; exact ⟨Nat.le_of_ble_eq_true rfl, Nat.le_of_ble_eq_true rfl⟩) [0, 8, 9, 10, 11] 0 6 rfl rfl (by decide) rfl [o, pa, va, ua, ya] rfl rfl rfl rfl (Nat.le_of_ble_eq_true rfl) dX6_worst_31 ⟨Nat.zero_le _, Nat.zero_le _⟩ (fun H locs hw => ?_)
        have hw : g_W D A s [(o, .inr (6, [.int 0, u1, u2, .ref xa, .int (nI nw), .int (nI nf), .ref fa, u7, u8, u9, u10, .ref pa, .ref va, .ref ua, .ref ya, u15, u16, u17, u18, u19, u20, u21, u22, u23, u24, u25, u26, .ref wa, .ref la, .ref ta, .int (rS K1), .int (rN K1), .float (rH K1), .ref ma, u34, .ref sa])), (xa, .inl (E 0, 12, .inl (g_tv 0))), (fa, .inl (E 0, 18, .inl fl)), (wa, .inl (E 0, 3, .inl (rW K1))), (la, .inl (E 1, 4, .inr (.inr (.inl (rP K1))))), (ta, .inl (E 1, 4, .inr (.inr (.inl (rT K1))))), (ma, .inl (E 1, 3, .inr (.inr (.inl (rM K1))))), (sa, .inl (E 0, 9, .inl (g_tv 1))), (pa, .inl (E 0, 29, .inl (pgF S))), (va, .inl (E 1, 5, .inr (.inr (.inl (fl5 S))))), (ua, .inl (E 0, 29, .inl (pgF S))), (ya, .inl (E 1, 5, .inr (.inr (.inl (fl5 S)))))] H locs := hw
        refine lv_aload_n hx hb dX6_worst_34 rfl (lv_at hl 0 rfl) ?_
        refine g_get (TT := TX6) hc hw inX6_worst_X6 0 13 3 rfl rfl (by decide) rfl rfl dX6_worst_35 ?_
        refine lv_iload_n hx hb dX6_worst_38 rfl (lv_at hl 3 rfl) ?_
        refine g_cS (As := [.ref ua, .int (nI i)]) (n := 2) (rest := []) (wc := [(ua, .inl (E 0, 29, .inl (pgF S)))]) (w1 := [(ua, .inl (E 0, 29, .inl (pgF (skS S i))))]) (bytes := cX6_killOn) (maxL := 2) (ret := none) hc hw hl.1 (m_X6_killOn (l := l) (D := D) (E := E) (T := T) ua i S hok.d (by omega)) gX6_worst_X6_killOn rfl (by decide +kernel) (by rw [hR]; exact ⟨Nat.le_of_ble_eq_true rfl, Nat.le_of_ble_eq_true rfl⟩) [10] (by decide) rfl [ua] rfl rfl rfl rfl (Nat.le_of_ble_eq_true rfl) dX6_worst_39 ⟨Nat.zero_le _, Nat.zero_le _⟩ (fun H locs hw => ?_)
        have hw : g_W D A s [(o, .inr (6, [.int 0, u1, u2, .ref xa, .int (nI nw), .int (nI nf), .ref fa, u7, u8, u9, u10, .ref pa, .ref va, .ref ua, .ref ya, u15, u16, u17, u18, u19, u20, u21, u22, u23, u24, u25, u26, .ref wa, .ref la, .ref ta, .int (rS K1), .int (rN K1), .float (rH K1), .ref ma, u34, .ref sa])), (xa, .inl (E 0, 12, .inl (g_tv 0))), (fa, .inl (E 0, 18, .inl fl)), (wa, .inl (E 0, 3, .inl (rW K1))), (la, .inl (E 1, 4, .inr (.inr (.inl (rP K1))))), (ta, .inl (E 1, 4, .inr (.inr (.inl (rT K1))))), (ma, .inl (E 1, 3, .inr (.inr (.inl (rM K1))))), (sa, .inl (E 0, 9, .inl (g_tv 1))), (pa, .inl (E 0, 29, .inl (pgF S))), (va, .inl (E 1, 5, .inr (.inr (.inl (fl5 S))))), (ua, .inl (E 0, 29, .inl (pgF (skS S i)))), (ya, .inl (E 1, 5, .inr (.inr (.inl (fl5 S)))))] H locs := hw
        have hw : g_W D A s [(o, .inr (6, [.int 0, u1, u2, .ref xa, .int (nI nw), .int (nI nf), .ref fa, u7, u8, u9, u10, .ref pa, .ref va, .ref ua, .ref ya, u15, u16, u17, u18, u19, u20, u21, u22, u23, u24, u25, u26, .ref wa, .ref la, .ref ta, .int (rS K1), .int (rN K1), .float (rH K1), .ref ma, u34, .ref sa])), (xa, .inl (E 0, 12, .inl (g_tv 0))), (fa, .inl (E 0, 18, .inl fl)), (wa, .inl (E 0, 3, .inl (rW K1))), (la, .inl (E 1, 4, .inr (.inr (.inl (rP K1))))), (ta, .inl (E 1, 4, .inr (.inr (.inl (rT K1))))), (ma, .inl (E 1, 3, .inr (.inr (.inl (rM K1))))), (sa, .inl (E 0, 9, .inl (g_tv 1))), (pa, .inl (E 0, 29, .inl (pgF S))), (va, .inl (E 1, 5, .inr (.inr (.inl (fl5 S))))), (ua, .inl (E 0, 29, .inl (pgF (skS S i)))), (ya, .inl (E 1, 5, .inr (.inr (.inl (fl5 (skS S i))))))] H locs := hw
        refine lv_aload_n hx hb dX6_worst_42 rfl (lv_at hl 0 rfl) ?_
        refine g_cEV (As := []) (n := 0) (rest := []) (wc := [(o, .inr (6, [.int 0, u1, u2, .ref xa, .int (nI nw), .int (nI nf), .ref fa, u7, u8, u9, u10, .ref pa, .ref va, .ref ua, .ref ya, u15, u16, u17, u18, u19, u20, u21, u22, u23, u24, u25, u26, .ref wa, .ref la, .ref ta, .int (rS K1), .int (rN K1), .float (rH K1), .ref ma, u34, .ref sa])), (xa, .inl (E 0, 12, .inl (g_tv 0))), (fa, .inl (E 0, 18, .inl fl)), (wa, .inl (E 0, 3, .inl (rW K1))), (la, .inl (E 1, 4, .inr (.inr (.inl (rP K1))))), (ta, .inl (E 1, 4, .inr (.inr (.inl (rT K1))))), (ma, .inl (E 1, 3, .inr (.inr (.inl (rM K1))))), (sa, .inl (E 0, 9, .inl (g_tv 1))), (ua, .inl (E 0, 29, .inl (pgF (skS S i)))), (ya, .inl (E 1, 5, .inr (.inr (.inl (fl5 (skS S i))))))]) (w1 := (fun (K1 : RJ) => [(o, .inr (6, [.int 0, u1, u2, .ref xa, .int (nI nw), .int (nI nf), .ref fa, u7, u8, u9, u10, .ref pa, .ref va, .ref ua, .ref ya, u15, u16, u17, u18, u19, u20, u21, u22, u23, u24, u25, u26, .ref wa, .ref la, .ref ta, .int (rS K1), .int (rN K1), .float (rH K1), .ref ma, u34, .ref sa])), (xa, .inl (E 0, 12, .inl (g_tv 0))), (fa, .inl (E 0, 18, .inl fl)), (wa, .inl (E 0, 3, .inl (rW K1))), (la, .inl (E 1, 4, .inr (.inr (.inl (rP K1))))), (ta, .inl (E 1, 4, .inr (.inr (.inl (rT K1))))), (ma, .inl (E 1, 3, .inr (.inr (.inl (rM K1))))), (sa, .inl (E 0, 9, .inl (g_tv 1))), (ua, .inl (E 0, 29, .inl (pgF (tkN nw nf fl (x3F 0 0 0) (skS S i) 20)))), (ya, .inl (E 1, 5, .inr (.inr (.inl (fl5 (tkN nw nf fl (x3F 0 0 0) (skS S i) 20))))))])) (bytes := cX6_badOnes) (maxL := 2) (ret := (some .int)) hc hw hl.1 (m_X6_badOnes_x (l := l) (D := D) (E := E) (T := T) o xa fa wa la ta ma sa nw nf ua ya B (.int 0) u1 u2 u7 u8 u9 u10 (.ref pa) (.ref va) u15 u16 u17 u18 u19 u20 u21 u22 u23 u24 u25 u26 u34 fl (skS S i) K1 (hok.sk (show i < 4 by omega)) (by omega) (by first | assumption | omega | decide) (by first | assumption | omega | decide)) gX6_worst_X6_badOnes rfl (by decide +kernel) (by rw [hR]; exact ⟨Nat.le_of_ble_eq_true rfl, Nat.le_of_ble_eq_true rfl⟩) [0, 1, 2, 3, 4, 5, 6, 7, 10, 11] 0 6 rfl rfl (by decide) rfl [o, xa, fa, wa, la, ta, ma, sa, ua, ya] (fun _ => rfl) rfl rfl rfl (Nat.le_of_ble_eq_true rfl) dX6_worst_43 ⟨Nat.zero_le _, Nat.zero_le _⟩ (fun u_1 H locs hw => ?_)
        obtain ⟨K1_u_1, rfl⟩ : ∃ z, z = u_1 := ⟨_, rfl⟩
        have hw : g_W D A s [(o, .inr (6, [.int 0, u1, u2, .ref xa, .int (nI nw), .int (nI nf), .ref fa, u7, u8, u9, u10, .ref pa, .ref va, .ref ua, .ref ya, u15, u16, u17, u18, u19, u20, u21, u22, u23, u24, u25, u26, .ref wa, .ref la, .ref ta, .int (rS K1_u_1), .int (rN K1_u_1), .float (rH K1_u_1), .ref ma, u34, .ref sa])), (xa, .inl (E 0, 12, .inl (g_tv 0))), (fa, .inl (E 0, 18, .inl fl)), (wa, .inl (E 0, 3, .inl (rW K1_u_1))), (la, .inl (E 1, 4, .inr (.inr (.inl (rP K1_u_1))))), (ta, .inl (E 1, 4, .inr (.inr (.inl (rT K1_u_1))))), (ma, .inl (E 1, 3, .inr (.inr (.inl (rM K1_u_1))))), (sa, .inl (E 0, 9, .inl (g_tv 1))), (pa, .inl (E 0, 29, .inl (pgF S))), (va, .inl (E 1, 5, .inr (.inr (.inl (fl5 S))))), (ua, .inl (E 0, 29, .inl (pgF (tkN nw nf fl (x3F 0 0 0) (skS S i) 20)))), (ya, .inl (E 1, 5, .inr (.inr (.inl (fl5 (tkN nw nf fl (x3F 0 0 0) (skS S i) 20))))))] H locs := hw
        refine lv_istore (lv' := [(4, .int (clR nw nf fl (x3F 0 0 0) (skS S i) 20)), (0, .ref o), (1, .int ((wrA nw nf fl (x3F 0 0 0) S i).1)), (2, .int ((wrA nw nf fl (x3F 0 0 0) S i).2)), (3, .int (nI i))]) hx hb dX6_worst_46 hl (by decide) rfl (fun ls hl => ?_)
        refine lv_iload_n hx hb dX6_worst_48 rfl (lv_at hl 2 rfl) ?_
        refine lv_bipush (v := (-9)) hx hb dX6_worst_49 (by decide) ?_
        refine lv_icmp_eq (tgt := 60) hx hb dX6_worst_51 (by decide) (fun c_51 => ?_) (fun c_51 => ?_)
        · skip
          refine lv_iload_n hx hb dX6_worst_60 rfl (lv_at hl 4 rfl) ?_
          refine lv_istore_n (lv' := [(1, .int (nI i)), (4, .int (clR nw nf fl (x3F 0 0 0) (skS S i) 20)), (0, .ref o), (2, .int ((wrA nw nf fl (x3F 0 0 0) S i).2)), (3, .int (nI i))]) hx hb dX6_worst_61 rfl hl (by decide) rfl (fun ls hl => ?_)
          refine lv_iload hx hb dX6_worst_62 (lv_at hl 1 rfl) ?_
          refine lv_istore_n (lv' := [(2, .int (clR nw nf fl (x3F 0 0 0) (skS S i) 20)), (1, .int (nI i)), (4, .int (clR nw nf fl (x3F 0 0 0) (skS S i) 20)), (0, .ref o), (3, .int (nI i))]) hx hb dX6_worst_64 rfl hl (by decide) rfl (fun ls hl => ?_)
          refine lv_iinc (v := nI (i + 1)) (lv' := [(3, .int (nI (i + 1))), (2, .int (clR nw nf fl (x3F 0 0 0) (skS S i) 20)), (1, .int (nI i)), (4, .int (clR nw nf fl (x3F 0 0 0) (skS S i) 20)), (0, .ref o)]) hx hb dX6_worst_65 hl (k := 4) rfl (n_inc1 rfl) (by decide) rfl (fun ls hl => ?_)
          refine lv_goto (tgt := 12) hx hb dX6_worst_68 (by decide) ?_
          have hl := lv_conv hl 2 rfl (v' := (.int ((wrA nw nf fl (x3F 0 0 0) S (i + 1)).1))) (by exact congrArg Value.int (by rw [wrA, if_pos ⟨k_27, Or.inl c_51⟩]))
          have hl : lv_has ls 5 [(3, .int (nI (i + 1))), (2, .int (clR nw nf fl (x3F 0 0 0) (skS S i) 20)), (1, .int ((wrA nw nf fl (x3F 0 0 0) S (i + 1)).1)), (4, .int (clR nw nf fl (x3F 0 0 0) (skS S i) 20)), (0, .ref o)] := hl
          have hl := lv_conv hl 1 rfl (v' := (.int ((wrA nw nf fl (x3F 0 0 0) S (i + 1)).2))) (by exact congrArg Value.int (by rw [wrA, if_pos ⟨k_27, Or.inl c_51⟩]))
          have hl : lv_has ls 5 [(3, .int (nI (i + 1))), (2, .int ((wrA nw nf fl (x3F 0 0 0) S (i + 1)).2)), (1, .int ((wrA nw nf fl (x3F 0 0 0) S (i + 1)).1)), (4, .int (clR nw nf fl (x3F 0 0 0) (skS S i) 20)), (0, .ref o)] := hl
          exact ih (i + 1) (by omega) K1_u_1 (tkN nw nf fl (x3F 0 0 0) (skS S i) 20)  _ _ _ hw (lv_sub hl [4, 2, 1, 0] rfl)
        · skip
          refine lv_iload hx hb dX6_worst_54 (lv_at hl 0 rfl) ?_
          refine lv_iload_n hx hb dX6_worst_56 rfl (lv_at hl 3 rfl) ?_
          refine lv_icmp_le (tgt := 65) hx hb dX6_worst_57 (by decide) (fun c_57 => ?_) (fun c_57 => ?_)
          · skip
            refine lv_iinc (v := nI (i + 1)) (lv' := [(3, .int (nI (i + 1))), (4, .int (clR nw nf fl (x3F 0 0 0) (skS S i) 20)), (0, .ref o), (1, .int ((wrA nw nf fl (x3F 0 0 0) S i).1)), (2, .int ((wrA nw nf fl (x3F 0 0 0) S i).2))]) hx hb dX6_worst_65 hl (k := 4) rfl (n_inc1 rfl) (by decide) rfl (fun ls hl => ?_)
            refine lv_goto (tgt := 12) hx hb dX6_worst_68 (by decide) ?_
            have hl := lv_conv hl 3 rfl (v' := (.int ((wrA nw nf fl (x3F 0 0 0) S (i + 1)).1))) (by exact congrArg Value.int (by rw [wrA, if_neg (fun q => q.2.elim c_51 (fun z => Int32.not_lt.mpr c_57 z))]))
            have hl : lv_has ls 5 [(3, .int (nI (i + 1))), (4, .int (clR nw nf fl (x3F 0 0 0) (skS S i) 20)), (0, .ref o), (1, .int ((wrA nw nf fl (x3F 0 0 0) S (i + 1)).1)), (2, .int ((wrA nw nf fl (x3F 0 0 0) S i).2))] := hl
            have hl := lv_conv hl 4 rfl (v' := (.int ((wrA nw nf fl (x3F 0 0 0) S (i + 1)).2))) (by exact congrArg Value.int (by rw [wrA, if_neg (fun q => q.2.elim c_51 (fun z => Int32.not_lt.mpr c_57 z))]))
            have hl : lv_has ls 5 [(3, .int (nI (i + 1))), (4, .int (clR nw nf fl (x3F 0 0 0) (skS S i) 20)), (0, .ref o), (1, .int ((wrA nw nf fl (x3F 0 0 0) S (i + 1)).1)), (2, .int ((wrA nw nf fl (x3F 0 0 0) S (i + 1)).2))] := hl
            exact ih (i + 1) (by omega) K1_u_1 (tkN nw nf fl (x3F 0 0 0) (skS S i) 20)  _ _ _ hw (lv_sub hl [2, 3, 4, 0] rfl)
          · skip
            refine lv_iload_n hx hb dX6_worst_60 rfl (lv_at hl 4 rfl) ?_
            refine lv_istore_n (lv' := [(1, .int (nI i)), (4, .int (clR nw nf fl (x3F 0 0 0) (skS S i) 20)), (0, .ref o), (2, .int ((wrA nw nf fl (x3F 0 0 0) S i).2)), (3, .int (nI i))]) hx hb dX6_worst_61 rfl hl (by decide) rfl (fun ls hl => ?_)
            refine lv_iload hx hb dX6_worst_62 (lv_at hl 1 rfl) ?_
            refine lv_istore_n (lv' := [(2, .int (clR nw nf fl (x3F 0 0 0) (skS S i) 20)), (1, .int (nI i)), (4, .int (clR nw nf fl (x3F 0 0 0) (skS S i) 20)), (0, .ref o), (3, .int (nI i))]) hx hb dX6_worst_64 rfl hl (by decide) rfl (fun ls hl => ?_)
            refine lv_iinc (v := nI (i + 1)) (lv' := [(3, .int (nI (i + 1))), (2, .int (clR nw nf fl (x3F 0 0 0) (skS S i) 20)), (1, .int (nI i)), (4, .int (clR nw nf fl (x3F 0 0 0) (skS S i) 20)), (0, .ref o)]) hx hb dX6_worst_65 hl (k := 4) rfl (n_inc1 rfl) (by decide) rfl (fun ls hl => ?_)
            refine lv_goto (tgt := 12) hx hb dX6_worst_68 (by decide) ?_
            have hl := lv_conv hl 2 rfl (v' := (.int ((wrA nw nf fl (x3F 0 0 0) S (i + 1)).1))) (by exact congrArg Value.int (by rw [wrA, if_pos ⟨k_27, Or.inr (Int32.not_le.mp c_57)⟩]))
            have hl : lv_has ls 5 [(3, .int (nI (i + 1))), (2, .int (clR nw nf fl (x3F 0 0 0) (skS S i) 20)), (1, .int ((wrA nw nf fl (x3F 0 0 0) S (i + 1)).1)), (4, .int (clR nw nf fl (x3F 0 0 0) (skS S i) 20)), (0, .ref o)] := hl
            have hl := lv_conv hl 1 rfl (v' := (.int ((wrA nw nf fl (x3F 0 0 0) S (i + 1)).2))) (by exact congrArg Value.int (by rw [wrA, if_pos ⟨k_27, Or.inr (Int32.not_le.mp c_57)⟩]))
            have hl : lv_has ls 5 [(3, .int (nI (i + 1))), (2, .int ((wrA nw nf fl (x3F 0 0 0) S (i + 1)).2)), (1, .int ((wrA nw nf fl (x3F 0 0 0) S (i + 1)).1)), (4, .int (clR nw nf fl (x3F 0 0 0) (skS S i) 20)), (0, .ref o)] := hl
            exact ih (i + 1) (by omega) K1_u_1 (tkN nw nf fl (x3F 0 0 0) (skS S i) 20)  _ _ _ hw (lv_sub hl [4, 2, 1, 0] rfl)
  have hl := lv_conv hl 2 rfl (v' := (.int ((wrA nw nf fl (x3F 0 0 0) S 0).1))) (by rfl)
  have hl : lv_has ls 5 [(3, .int 0), (2, .int 0), (1, .int ((wrA nw nf fl (x3F 0 0 0) S 0).1)), (0, .ref o)] := hl
  have hl := lv_conv hl 1 rfl (v' := (.int ((wrA nw nf fl (x3F 0 0 0) S 0).2))) (by rfl)
  have hl : lv_has ls 5 [(3, .int 0), (2, .int ((wrA nw nf fl (x3F 0 0 0) S 0).2)), (1, .int ((wrA nw nf fl (x3F 0 0 0) S 0).1)), (0, .ref o)] := hl
  have hl := lv_conv hl 0 rfl (v' := (.int (nI 0))) (by rfl)
  have hl : lv_has ls 5 [(3, .int (nI 0)), (2, .int ((wrA nw nf fl (x3F 0 0 0) S 0).2)), (1, .int ((wrA nw nf fl (x3F 0 0 0) S 0).1)), (0, .ref o)] := hl
  exact J12 4 0 (by omega) K U  _ _ _ hw (lv_sub hl [3, 2, 1, 0] rfl)

theorem dX6_isSo_0 : decode cX6_isSo 0 = .ok (.aload_n 0, 1) := by decide +kernel
theorem dX6_isSo_1 : decode cX6_isSo 1 = .ok (.invokevirtual 248, 3) := by decide +kernel
theorem dX6_isSo_4 : decode cX6_isSo 4 = .ok (.aload_n 0, 1) := by decide +kernel
theorem dX6_isSo_5 : decode cX6_isSo 5 = .ok (.getfield 32, 3) := by decide +kernel
theorem dX6_isSo_8 : decode cX6_isSo 8 = .ok (.iload_n 1, 1) := by decide +kernel
theorem dX6_isSo_9 : decode cX6_isSo 9 = .ok (.invokestatic 237, 3) := by decide +kernel
theorem dX6_isSo_12 : decode cX6_isSo 12 = .ok (.aload_n 0, 1) := by decide +kernel
theorem dX6_isSo_13 : decode cX6_isSo 13 = .ok (.aload_n 0, 1) := by decide +kernel
theorem dX6_isSo_14 : decode cX6_isSo 14 = .ok (.getfield 32, 3) := by decide +kernel
theorem dX6_isSo_17 : decode cX6_isSo 17 = .ok (.aload_n 0, 1) := by decide +kernel
theorem dX6_isSo_18 : decode cX6_isSo 18 = .ok (.getfield 35, 3) := by decide +kernel
theorem dX6_isSo_21 : decode cX6_isSo 21 = .ok (.aload_n 0, 1) := by decide +kernel
theorem dX6_isSo_22 : decode cX6_isSo 22 = .ok (.getfield 54, 3) := by decide +kernel
theorem dX6_isSo_25 : decode cX6_isSo 25 = .ok (.iload_n 2, 1) := by decide +kernel
theorem dX6_isSo_26 : decode cX6_isSo 26 = .ok (.iaload, 1) := by decide +kernel
theorem dX6_isSo_27 : decode cX6_isSo 27 = .ok (.invokevirtual 234, 3) := by decide +kernel
theorem dX6_isSo_30 : decode cX6_isSo 30 = .ok (.aload_n 0, 1) := by decide +kernel
theorem dX6_isSo_31 : decode cX6_isSo 31 = .ok (.getfield 60, 3) := by decide +kernel
theorem dX6_isSo_34 : decode cX6_isSo 34 = .ok (.iload_n 2, 1) := by decide +kernel
theorem dX6_isSo_35 : decode cX6_isSo 35 = .ok (.iaload, 1) := by decide +kernel
theorem dX6_isSo_36 : decode cX6_isSo 36 = .ok (.istore_n 3, 1) := by decide +kernel
theorem dX6_isSo_37 : decode cX6_isSo 37 = .ok (.aload_n 0, 1) := by decide +kernel
theorem dX6_isSo_38 : decode cX6_isSo 38 = .ok (.getfield 57, 3) := by decide +kernel
theorem dX6_isSo_41 : decode cX6_isSo 41 = .ok (.iload_n 2, 1) := by decide +kernel
theorem dX6_isSo_42 : decode cX6_isSo 42 = .ok (.iaload, 1) := by decide +kernel
theorem dX6_isSo_43 : decode cX6_isSo 43 = .ok (.ifCond .ne 21, 3) := by decide +kernel
theorem dX6_isSo_46 : decode cX6_isSo 46 = .ok (.aload_n 0, 1) := by decide +kernel
theorem dX6_isSo_47 : decode cX6_isSo 47 = .ok (.getfield 32, 3) := by decide +kernel
theorem dX6_isSo_50 : decode cX6_isSo 50 = .ok (.iconst 1, 1) := by decide +kernel
theorem dX6_isSo_51 : decode cX6_isSo 51 = .ok (.iaload, 1) := by decide +kernel
theorem dX6_isSo_52 : decode cX6_isSo 52 = .ok (.iload_n 3, 1) := by decide +kernel
theorem dX6_isSo_53 : decode cX6_isSo 53 = .ok (.if_icmp .ne 7, 3) := by decide +kernel
theorem dX6_isSo_56 : decode cX6_isSo 56 = .ok (.iconst 1, 1) := by decide +kernel
theorem dX6_isSo_57 : decode cX6_isSo 57 = .ok (.goto 51, 3) := by decide +kernel
theorem dX6_isSo_60 : decode cX6_isSo 60 = .ok (.iconst 0, 1) := by decide +kernel
theorem dX6_isSo_61 : decode cX6_isSo 61 = .ok (.goto 47, 3) := by decide +kernel
theorem dX6_isSo_64 : decode cX6_isSo 64 = .ok (.aload_n 0, 1) := by decide +kernel
theorem dX6_isSo_65 : decode cX6_isSo 65 = .ok (.getfield 57, 3) := by decide +kernel
theorem dX6_isSo_68 : decode cX6_isSo 68 = .ok (.iload_n 2, 1) := by decide +kernel
theorem dX6_isSo_69 : decode cX6_isSo 69 = .ok (.iaload, 1) := by decide +kernel
theorem dX6_isSo_70 : decode cX6_isSo 70 = .ok (.iconst 1, 1) := by decide +kernel
theorem dX6_isSo_71 : decode cX6_isSo 71 = .ok (.if_icmp .ne 21, 3) := by decide +kernel
theorem dX6_isSo_74 : decode cX6_isSo 74 = .ok (.aload_n 0, 1) := by decide +kernel
theorem dX6_isSo_75 : decode cX6_isSo 75 = .ok (.getfield 32, 3) := by decide +kernel
theorem dX6_isSo_78 : decode cX6_isSo 78 = .ok (.iconst 2, 1) := by decide +kernel
theorem dX6_isSo_79 : decode cX6_isSo 79 = .ok (.iaload, 1) := by decide +kernel
theorem dX6_isSo_80 : decode cX6_isSo 80 = .ok (.iload_n 3, 1) := by decide +kernel
theorem dX6_isSo_81 : decode cX6_isSo 81 = .ok (.if_icmp .ne 7, 3) := by decide +kernel
theorem dX6_isSo_84 : decode cX6_isSo 84 = .ok (.iconst 1, 1) := by decide +kernel
theorem dX6_isSo_85 : decode cX6_isSo 85 = .ok (.goto 23, 3) := by decide +kernel
theorem dX6_isSo_88 : decode cX6_isSo 88 = .ok (.iconst 0, 1) := by decide +kernel
theorem dX6_isSo_89 : decode cX6_isSo 89 = .ok (.goto 19, 3) := by decide +kernel
theorem dX6_isSo_92 : decode cX6_isSo 92 = .ok (.aload_n 0, 1) := by decide +kernel
theorem dX6_isSo_93 : decode cX6_isSo 93 = .ok (.getfield 35, 3) := by decide +kernel
theorem dX6_isSo_96 : decode cX6_isSo 96 = .ok (.iload_n 3, 1) := by decide +kernel
theorem dX6_isSo_97 : decode cX6_isSo 97 = .ok (.faload, 1) := by decide +kernel
theorem dX6_isSo_98 : decode cX6_isSo 98 = .ok (.fconst 0, 1) := by decide +kernel
theorem dX6_isSo_99 : decode cX6_isSo 99 = .ok (.fcmp .g, 1) := by decide +kernel
theorem dX6_isSo_100 : decode cX6_isSo 100 = .ok (.ifCond .ge 7, 3) := by decide +kernel
theorem dX6_isSo_103 : decode cX6_isSo 103 = .ok (.iconst 1, 1) := by decide +kernel
theorem dX6_isSo_104 : decode cX6_isSo 104 = .ok (.goto 4, 3) := by decide +kernel
theorem dX6_isSo_107 : decode cX6_isSo 107 = .ok (.iconst 0, 1) := by decide +kernel
theorem dX6_isSo_108 : decode cX6_isSo 108 = .ok (.istore 4, 2) := by decide +kernel
theorem dX6_isSo_110 : decode cX6_isSo 110 = .ok (.iload 4, 2) := by decide +kernel
theorem dX6_isSo_112 : decode cX6_isSo 112 = .ok (.aload_n 0, 1) := by decide +kernel
theorem dX6_isSo_113 : decode cX6_isSo 113 = .ok (.getfield 63, 3) := by decide +kernel
theorem dX6_isSo_116 : decode cX6_isSo 116 = .ok (.iload_n 2, 1) := by decide +kernel
theorem dX6_isSo_117 : decode cX6_isSo 117 = .ok (.iaload, 1) := by decide +kernel
theorem dX6_isSo_118 : decode cX6_isSo 118 = .ok (.iconst 1, 1) := by decide +kernel
theorem dX6_isSo_119 : decode cX6_isSo 119 = .ok (.if_icmp .ne 7, 3) := by decide +kernel
theorem dX6_isSo_122 : decode cX6_isSo 122 = .ok (.iconst 1, 1) := by decide +kernel
theorem dX6_isSo_123 : decode cX6_isSo 123 = .ok (.goto 4, 3) := by decide +kernel
theorem dX6_isSo_126 : decode cX6_isSo 126 = .ok (.iconst 0, 1) := by decide +kernel
theorem dX6_isSo_127 : decode cX6_isSo 127 = .ok (.if_icmp .ne 7, 3) := by decide +kernel
theorem dX6_isSo_130 : decode cX6_isSo 130 = .ok (.iconst 1, 1) := by decide +kernel
theorem dX6_isSo_131 : decode cX6_isSo 131 = .ok (.goto 4, 3) := by decide +kernel
theorem dX6_isSo_134 : decode cX6_isSo 134 = .ok (.iconst 0, 1) := by decide +kernel
theorem dX6_isSo_135 : decode cX6_isSo 135 = .ok (.ireturn, 1) := by decide +kernel
set_option maxRecDepth 20000 in
theorem ggX6_isSo_X6_layTrial : GoodIn wsX6_isSo wsX6_layTrial := goodIn_r _ [11, 1, 12, 2, 13, 96, 97, 98, 99, 100, 101, 102, 103, 104, 105, 106, 107, 108, 109, 110, 111, 112, 113, 114, 115, 116, 117, 118, 119, 120, 121, 122, 123, 124, 125, 126, 127, 128, 129, 130, 131] rfl (by decide +kernel)
set_option maxRecDepth 20000 in
theorem gX6_isSo_X6_layTrial : GoodIn wsX6_isSo (wsV RX6 248 RX6 yX6_layTrial wsX6_layTrial) := goodIn_app (goodIn_of _ (by decide +kernel)) ggX6_isSo_X6_layTrial
set_option maxRecDepth 20000 in
theorem ggX6_isSo_X6_killOn : GoodIn wsX6_isSo wsX6_killOn := goodIn_r _ [16, 17, 18, 10, 19] rfl (by decide +kernel)
set_option maxRecDepth 20000 in
theorem gX6_isSo_X6_killOn : GoodIn wsX6_isSo (va_wsS RX6 237 yX6_killOn wsX6_killOn) := goodIn_app (goodIn_of _ (by decide +kernel)) ggX6_isSo_X6_killOn
set_option maxRecDepth 20000 in
theorem ggX6_isSo_X6_tickMany : GoodIn wsX6_isSo wsX6_tickMany := goodIn_r _ [23, 24, 25, 26, 10, 27, 28, 29, 30, 31, 32, 33, 34, 35, 36, 37, 38, 39, 40, 41, 42, 43, 44, 45, 46, 47, 48, 49, 50, 51, 52, 53, 54, 55, 56, 57, 58, 59, 60, 61, 62, 63, 64, 65, 66, 67, 68, 69, 70, 71, 72, 73, 74, 75, 76, 77, 78, 79, 17, 18, 19, 80, 81, 82, 83, 84, 85, 86, 87, 88, 89, 90, 91, 92, 93, 94, 95, 96, 97, 98, 99, 100, 101, 102, 103, 104, 105, 106, 107, 108, 109, 110, 111, 112, 113, 114, 115, 116, 117, 118, 119, 120, 121, 122, 123, 124, 125, 126, 127, 128, 129, 130, 131] rfl (by decide +kernel)
set_option maxRecDepth 20000 in
theorem gX6_isSo_X6_tickMany : GoodIn wsX6_isSo (wsV RX6 234 RX6 yX6_tickMany wsX6_tickMany) := goodIn_app (goodIn_of _ (by decide +kernel)) ggX6_isSo_X6_tickMany
theorem inX6_isSo_X6 : ∀ w ∈ u_ws RX6 TX6 36, w ∈ wsX6_isSo := fun w h => List.mem_cons_of_mem _ (List.mem_append_right _ h)
set_option maxRecDepth 100000 in
set_option maxHeartbeats 4000000 in
theorem m_X6_isSo {l : Launch} {D : va_G} {E : Nat → ClassId} {T : Nat → Nat} (o : Nat) (xa : Nat) (fa : Nat) (wa : Nat) (la : Nat) (ta : Nat) (ma : Nat) (sa : Nat) (nw : Nat) (nf : Nat) (pa : Nat) (va : Nat) (ua : Nat) (ya : Nat) (s1 : Nat) (s2 : Nat) (s3 : Nat) (s4 : Nat) (B : Nat) (u0 : Value) (u1 : Value) (u2 : Value) (u7 : Value) (u8 : Value) (u9 : Value) (u10 : Value) (u15 : Value) (u16 : Value) (u17 : Value) (u18 : Value) (u19 : Value) (u20 : Value) (u21 : Value) (u26 : Value) (u34 : Value) (fl : Nat → Int32) (S : TS) (U : TS) (K : RJ) (O9 : Nat → Nat × Nat × Nat × Bool) (i : Nat) (k : Nat) (hok : OkS B S) (hB : B + 9 < 2 ^ 31) (hnw : nw ≤ 6) (hnf : nf ≤ 6) (hi : i < 4) (hk : k < 6) (hob : ∀ k, (O9 k).1 ≤ 9 ∧ (O9 k).2.1 ≤ 2 ∧ (O9 k).2.2.1 ≤ 99 ∧ ((O9 k).2.1 = 2 → (O9 k).2.2.1 < 4)) : g_ME l D E T yX6_isSo wsX6_isSo 7 173 [.ref o, .int (nI i), .int (nI k)] [(o, .inr (6, [u0, u1, u2, .ref xa, .int (nI nw), .int (nI nf), .ref fa, u7, u8, u9, u10, .ref pa, .ref va, .ref ua, .ref ya, u15, u16, u17, u18, u19, u20, u21, .ref s1, .ref s2, .ref s3, .ref s4, u26, .ref wa, .ref la, .ref ta, .int (rS K), .int (rN K), .float (rH K), .ref ma, u34, .ref sa])), (xa, .inl (E 0, 12, .inl (g_tv 0))), (fa, .inl (E 0, 18, .inl fl)), (wa, .inl (E 0, 3, .inl (rW K))), (la, .inl (E 1, 4, .inr (.inr (.inl (rP K))))), (ta, .inl (E 1, 4, .inr (.inr (.inl (rT K))))), (ma, .inl (E 1, 3, .inr (.inr (.inl (rM K))))), (sa, .inl (E 0, 9, .inl (g_tv 1))), (pa, .inl (E 0, 29, .inl (pgF S))), (va, .inl (E 1, 5, .inr (.inr (.inl (fl5 S))))), (ua, .inl (E 0, 29, .inl (pgF U))), (ya, .inl (E 1, 5, .inr (.inr (.inl (fl5 U))))), (s1, .inl (E 0, 6, .inl (fun yy => nI (O9 yy).1))), (s2, .inl (E 0, 6, .inl (fun yy => nI (O9 yy).2.1))), (s3, .inl (E 0, 6, .inl (fun yy => nI (O9 yy).2.2.1))), (s4, .inl (E 0, 6, .inl (fun yy => b2i (O9 yy).2.2.2)))] (fun (y9 : RJ × TS) => [(o, .inr (6, [u0, u1, u2, .ref xa, .int (nI nw), .int (nI nf), .ref fa, u7, u8, u9, u10, .ref pa, .ref va, .ref ua, .ref ya, u15, u16, u17, u18, u19, u20, u21, .ref s1, .ref s2, .ref s3, .ref s4, u26, .ref wa, .ref la, .ref ta, .int (rS y9.1), .int (rN y9.1), .float (rH y9.1), .ref ma, u34, .ref sa])), (xa, .inl (E 0, 12, .inl (g_tv 0))), (fa, .inl (E 0, 18, .inl fl)), (wa, .inl (E 0, 3, .inl (rW y9.1))), (la, .inl (E 1, 4, .inr (.inr (.inl (rP y9.1))))), (ta, .inl (E 1, 4, .inr (.inr (.inl (rT y9.1))))), (ma, .inl (E 1, 3, .inr (.inr (.inl (rM y9.1))))), (sa, .inl (E 0, 9, .inl (g_tv 1))), (pa, .inl (E 0, 29, .inl (pgF S))), (va, .inl (E 1, 5, .inr (.inr (.inl (fl5 S))))), (ua, .inl (E 0, 29, .inl (pgF y9.2))), (ya, .inl (E 1, 5, .inr (.inr (.inl (fl5 y9.2))))), (s1, .inl (E 0, 6, .inl (fun yy => nI (O9 yy).1))), (s2, .inl (E 0, 6, .inl (fun yy => nI (O9 yy).2.1))), (s3, .inl (E 0, 6, .inl (fun yy => nI (O9 yy).2.2.1))), (s4, .inl (E 0, 6, .inl (fun yy => b2i (O9 yy).2.2.2)))]) (some (.int (b2i (decide (soF (O9 k).2.1 (O9 k).2.2.1 (sM (tkN nw nf fl (x3F 0 0 0) (skS S i) (O9 k).1)) (sI (tkN nw nf fl (x3F 0 0 0) (skS S i) (O9 k).1)) (sF (tkN nw nf fl (x3F 0 0 0) (skS S i) (O9 k).1)) = (O9 k).2.2.2))))) := by
  have ho := hob k
  refine g_ME.of (cc := cX6_isSo) (nL := 5) (ret := (some .boolean)) (own := RX6) (lv := [(0, .ref o), (1, .int (nI i)), (2, .int (nI k))]) (by decide) rfl rfl (Nat.le_of_ble_eq_true rfl) rfl ?_
  intro p e R s m args below meth c A Q H locs ls hR hQ hc hr hw hl
  have hx := hc.1
  have hb := hc.2.1
  have hts := hc.2.2.2.1
  have hown := hc.2.2.2.2.1
  refine lv_aload_n hx hb dX6_isSo_0 rfl (lv_at hl 0 rfl) ?_
  refine g_cV (As := []) (n := 0) (rest := []) (wc := [(o, .inr (6, [u0, u1, u2, .ref xa, .int (nI nw), .int (nI nf), .ref fa, u7, u8, u9, u10, .ref pa, .ref va, .ref ua, .ref ya, u15, u16, u17, u18, u19, u20, u21, .ref s1, .ref s2, .ref s3, .ref s4, u26, .ref wa, .ref la, .ref ta, .int (rS K), .int (rN K), .float (rH K), .ref ma, u34, .ref sa])), (pa, .inl (E 0, 29, .inl (pgF S))), (va, .inl (E 1, 5, .inr (.inr (.inl (fl5 S))))), (ua, .inl (E 0, 29, .inl (pgF U))), (ya, .inl (E 1, 5, .inr (.inr (.inl (fl5 U)))))]) (w1 := [(o, .inr (6, [u0, u1, u2, .ref xa, .int (nI nw), .int (nI nf), .ref fa, u7, u8, u9, u10, .ref pa, .ref va, .ref ua, .ref ya, u15, u16, u17, u18, u19, u20, u21, .ref s1, .ref s2, .ref s3, .ref s4, u26, .ref wa, .ref la, .ref ta, .int (rS K), .int (rN K), .float (rH K), .ref ma, u34, .ref sa])), (pa, .inl (E 0, 29, .inl (pgF S))), (va, .inl (E 1, 5, .inr (.inr (.inl (fl5 S))))), (ua, .inl (E 0, 29, .inl (pgF S))), (ya, .inl (E 1, 5, .inr (.inr (.inl (fl5 S)))))]) (bytes := cX6_layTrial) (maxL := 2) (ret := none) hc hw hl.1 (m_X6_layTrial (l := l) (D := D) (E := E) (T := T) o u0 u1 u2 (.ref xa) (.int (nI nw)) (.int (nI nf)) (.ref fa) u7 u8 u9 u10 u15 u16 u17 u18 u19 u20 u21 (.ref s1) (.ref s2) (.ref s3) (.ref s4) u26 (.ref wa) (.ref la) (.ref ta) (.int (rS K)) (.int (rN K)) (.float (rH K)) (.ref ma) u34 (.ref sa) pa va ua ya (pgF S) (fl5 S) (pgF U) (fl5 U)) gX6_isSo_X6_layTrial rfl (by decide +kernel) (by rw [hR]; exact ⟨Nat.le_of_ble_eq_true rfl, Nat.le_of_ble_eq_true rfl⟩) [0, 8, 9, 10, 11] 0 6 rfl rfl (by decide) rfl [o, pa, va, ua, ya] rfl rfl rfl rfl (Nat.le_of_ble_eq_true rfl) dX6_isSo_1 ⟨Nat.zero_le _, Nat.zero_le _⟩ (fun H locs hw => ?_)
  have hw : g_W D A s [(o, .inr (6, [u0, u1, u2, .ref xa, .int (nI nw), .int (nI nf), .ref fa, u7, u8, u9, u10, .ref pa, .ref va, .ref ua, .ref ya, u15, u16, u17, u18, u19, u20, u21, .ref s1, .ref s2, .ref s3, .ref s4, u26, .ref wa, .ref la, .ref ta, .int (rS K), .int (rN K), .float (rH K), .ref ma, u34, .ref sa])), (xa, .inl (E 0, 12, .inl (g_tv 0))), (fa, .inl (E 0, 18, .inl fl)), (wa, .inl (E 0, 3, .inl (rW K))), (la, .inl (E 1, 4, .inr (.inr (.inl (rP K))))), (ta, .inl (E 1, 4, .inr (.inr (.inl (rT K))))), (ma, .inl (E 1, 3, .inr (.inr (.inl (rM K))))), (sa, .inl (E 0, 9, .inl (g_tv 1))), (pa, .inl (E 0, 29, .inl (pgF S))), (va, .inl (E 1, 5, .inr (.inr (.inl (fl5 S))))), (ua, .inl (E 0, 29, .inl (pgF S))), (ya, .inl (E 1, 5, .inr (.inr (.inl (fl5 S))))), (s1, .inl (E 0, 6, .inl (fun yy => nI (O9 yy).1))), (s2, .inl (E 0, 6, .inl (fun yy => nI (O9 yy).2.1))), (s3, .inl (E 0, 6, .inl (fun yy => nI (O9 yy).2.2.1))), (s4, .inl (E 0, 6, .inl (fun yy => b2i (O9 yy).2.2.2)))] H locs := hw
  refine lv_aload_n hx hb dX6_isSo_4 rfl (lv_at hl 0 rfl) ?_
  refine g_get (TT := TX6) hc hw inX6_isSo_X6 0 13 1 rfl rfl (by decide) rfl rfl dX6_isSo_5 ?_
  refine lv_iload_n hx hb dX6_isSo_8 rfl (lv_at hl 1 rfl) ?_
  refine g_cS (As := [.ref ua, .int (nI i)]) (n := 2) (rest := []) (wc := [(ua, .inl (E 0, 29, .inl (pgF S)))]) (w1 := [(ua, .inl (E 0, 29, .inl (pgF (skS S i))))]) (bytes := cX6_killOn) (maxL := 2) (ret := none) hc hw hl.1 (m_X6_killOn (l := l) (D := D) (E := E) (T := T) ua i S hok.d hi) gX6_isSo_X6_killOn rfl (by decide +kernel) (by rw [hR]; exact ⟨Nat.le_of_ble_eq_true rfl, Nat.le_of_ble_eq_true rfl⟩) [10] (by decide) rfl [ua] rfl rfl rfl rfl (Nat.le_of_ble_eq_true rfl) dX6_isSo_9 ⟨Nat.zero_le _, Nat.zero_le _⟩ (fun H locs hw => ?_)
  have hw : g_W D A s [(o, .inr (6, [u0, u1, u2, .ref xa, .int (nI nw), .int (nI nf), .ref fa, u7, u8, u9, u10, .ref pa, .ref va, .ref ua, .ref ya, u15, u16, u17, u18, u19, u20, u21, .ref s1, .ref s2, .ref s3, .ref s4, u26, .ref wa, .ref la, .ref ta, .int (rS K), .int (rN K), .float (rH K), .ref ma, u34, .ref sa])), (xa, .inl (E 0, 12, .inl (g_tv 0))), (fa, .inl (E 0, 18, .inl fl)), (wa, .inl (E 0, 3, .inl (rW K))), (la, .inl (E 1, 4, .inr (.inr (.inl (rP K))))), (ta, .inl (E 1, 4, .inr (.inr (.inl (rT K))))), (ma, .inl (E 1, 3, .inr (.inr (.inl (rM K))))), (sa, .inl (E 0, 9, .inl (g_tv 1))), (pa, .inl (E 0, 29, .inl (pgF S))), (va, .inl (E 1, 5, .inr (.inr (.inl (fl5 S))))), (ua, .inl (E 0, 29, .inl (pgF (skS S i)))), (ya, .inl (E 1, 5, .inr (.inr (.inl (fl5 S))))), (s1, .inl (E 0, 6, .inl (fun yy => nI (O9 yy).1))), (s2, .inl (E 0, 6, .inl (fun yy => nI (O9 yy).2.1))), (s3, .inl (E 0, 6, .inl (fun yy => nI (O9 yy).2.2.1))), (s4, .inl (E 0, 6, .inl (fun yy => b2i (O9 yy).2.2.2)))] H locs := hw
  have hw : g_W D A s [(o, .inr (6, [u0, u1, u2, .ref xa, .int (nI nw), .int (nI nf), .ref fa, u7, u8, u9, u10, .ref pa, .ref va, .ref ua, .ref ya, u15, u16, u17, u18, u19, u20, u21, .ref s1, .ref s2, .ref s3, .ref s4, u26, .ref wa, .ref la, .ref ta, .int (rS K), .int (rN K), .float (rH K), .ref ma, u34, .ref sa])), (xa, .inl (E 0, 12, .inl (g_tv 0))), (fa, .inl (E 0, 18, .inl fl)), (wa, .inl (E 0, 3, .inl (rW K))), (la, .inl (E 1, 4, .inr (.inr (.inl (rP K))))), (ta, .inl (E 1, 4, .inr (.inr (.inl (rT K))))), (ma, .inl (E 1, 3, .inr (.inr (.inl (rM K))))), (sa, .inl (E 0, 9, .inl (g_tv 1))), (pa, .inl (E 0, 29, .inl (pgF S))), (va, .inl (E 1, 5, .inr (.inr (.inl (fl5 S))))), (ua, .inl (E 0, 29, .inl (pgF (skS S i)))), (ya, .inl (E 1, 5, .inr (.inr (.inl (fl5 (skS S i)))))), (s1, .inl (E 0, 6, .inl (fun yy => nI (O9 yy).1))), (s2, .inl (E 0, 6, .inl (fun yy => nI (O9 yy).2.1))), (s3, .inl (E 0, 6, .inl (fun yy => nI (O9 yy).2.2.1))), (s4, .inl (E 0, 6, .inl (fun yy => b2i (O9 yy).2.2.2)))] H locs := hw
  refine lv_aload_n hx hb dX6_isSo_12 rfl (lv_at hl 0 rfl) ?_
  refine lv_aload_n hx hb dX6_isSo_13 rfl (lv_at hl 0 rfl) ?_
  refine g_get (TT := TX6) hc hw inX6_isSo_X6 0 13 1 rfl rfl (by decide) rfl rfl dX6_isSo_14 ?_
  refine lv_aload_n hx hb dX6_isSo_17 rfl (lv_at hl 0 rfl) ?_
  refine g_get (TT := TX6) hc hw inX6_isSo_X6 0 14 2 rfl rfl (by decide) rfl rfl dX6_isSo_18 ?_
  refine lv_aload_n hx hb dX6_isSo_21 rfl (lv_at hl 0 rfl) ?_
  refine g_get (TT := TX6) hc hw inX6_isSo_X6 0 22 3 rfl rfl (by decide) rfl rfl dX6_isSo_22 ?_
  refine lv_iload_n hx hb dX6_isSo_25 rfl (lv_at hl 2 rfl) ?_
  refine g_ild hc hw 12 k rfl rfl (by omega) (by decide) dX6_isSo_26 ?_
  refine W.eq (congrArg (fun z => F0 m 27 ls (.int z :: [.ref ya, .ref ua, .ref o])) (show ((fun yy => nI (O9 yy).1) k : Int32) = nI ((O9 k).1) from rfl)) ?_
  refine g_cEV (As := [.ref ua, .ref ya, .int (nI ((O9 k).1))]) (n := 3) (rest := []) (wc := [(o, .inr (6, [u0, u1, u2, .ref xa, .int (nI nw), .int (nI nf), .ref fa, u7, u8, u9, u10, .ref pa, .ref va, .ref ua, .ref ya, u15, u16, u17, u18, u19, u20, u21, .ref s1, .ref s2, .ref s3, .ref s4, u26, .ref wa, .ref la, .ref ta, .int (rS K), .int (rN K), .float (rH K), .ref ma, u34, .ref sa])), (xa, .inl (E 0, 12, .inl (g_tv 0))), (fa, .inl (E 0, 18, .inl fl)), (wa, .inl (E 0, 3, .inl (rW K))), (la, .inl (E 1, 4, .inr (.inr (.inl (rP K))))), (ta, .inl (E 1, 4, .inr (.inr (.inl (rT K))))), (ma, .inl (E 1, 3, .inr (.inr (.inl (rM K))))), (sa, .inl (E 0, 9, .inl (g_tv 1))), (ua, .inl (E 0, 29, .inl (pgF (skS S i)))), (ya, .inl (E 1, 5, .inr (.inr (.inl (fl5 (skS S i))))))]) (w1 := (fun (K1 : RJ) => [(o, .inr (6, [u0, u1, u2, .ref xa, .int (nI nw), .int (nI nf), .ref fa, u7, u8, u9, u10, .ref pa, .ref va, .ref ua, .ref ya, u15, u16, u17, u18, u19, u20, u21, .ref s1, .ref s2, .ref s3, .ref s4, u26, .ref wa, .ref la, .ref ta, .int (rS K1), .int (rN K1), .float (rH K1), .ref ma, u34, .ref sa])), (xa, .inl (E 0, 12, .inl (g_tv 0))), (fa, .inl (E 0, 18, .inl fl)), (wa, .inl (E 0, 3, .inl (rW K1))), (la, .inl (E 1, 4, .inr (.inr (.inl (rP K1))))), (ta, .inl (E 1, 4, .inr (.inr (.inl (rT K1))))), (ma, .inl (E 1, 3, .inr (.inr (.inl (rM K1))))), (sa, .inl (E 0, 9, .inl (g_tv 1))), (ua, .inl (E 0, 29, .inl (pgF (tkN nw nf fl (x3F 0 0 0) (skS S i) ((O9 k).1))))), (ya, .inl (E 1, 5, .inr (.inr (.inl (fl5 (tkN nw nf fl (x3F 0 0 0) (skS S i) ((O9 k).1)))))))])) (bytes := cX6_tickMany) (maxL := 5) (ret := none) hc hw hl.1 (m_X6_tickMany_x (l := l) (D := D) (E := E) (T := T) o xa fa wa la ta ma sa ua ya nw nf B u0 u1 u2 u7 u8 u9 u10 (.ref pa) (.ref va) (.ref ua) (.ref ya) u15 u16 u17 u18 u19 u20 u21 (.ref s1) (.ref s2) (.ref s3) (.ref s4) u26 u34 fl (skS S i) K ((O9 k).1) (hok.sk hi) (by omega) (by first | assumption | omega | decide) (by first | assumption | omega | decide)) gX6_isSo_X6_tickMany rfl (by decide +kernel) (by rw [hR]; exact ⟨Nat.le_of_ble_eq_true rfl, Nat.le_of_ble_eq_true rfl⟩) [0, 1, 2, 3, 4, 5, 6, 7, 10, 11] 0 6 rfl rfl (by decide) rfl [o, xa, fa, wa, la, ta, ma, sa, ua, ya] (fun _ => rfl) rfl rfl rfl (Nat.le_of_ble_eq_true rfl) dX6_isSo_27 ⟨Nat.zero_le _, Nat.zero_le _⟩ (fun u_1 H locs hw => ?_)
  obtain ⟨K1_u_1, rfl⟩ : ∃ z, z = u_1 := ⟨_, rfl⟩
  have hw : g_W D A s [(o, .inr (6, [u0, u1, u2, .ref xa, .int (nI nw), .int (nI nf), .ref fa, u7, u8, u9, u10, .ref pa, .ref va, .ref ua, .ref ya, u15, u16, u17, u18, u19, u20, u21, .ref s1, .ref s2, .ref s3, .ref s4, u26, .ref wa, .ref la, .ref ta, .int (rS K1_u_1), .int (rN K1_u_1), .float (rH K1_u_1), .ref ma, u34, .ref sa])), (xa, .inl (E 0, 12, .inl (g_tv 0))), (fa, .inl (E 0, 18, .inl fl)), (wa, .inl (E 0, 3, .inl (rW K1_u_1))), (la, .inl (E 1, 4, .inr (.inr (.inl (rP K1_u_1))))), (ta, .inl (E 1, 4, .inr (.inr (.inl (rT K1_u_1))))), (ma, .inl (E 1, 3, .inr (.inr (.inl (rM K1_u_1))))), (sa, .inl (E 0, 9, .inl (g_tv 1))), (pa, .inl (E 0, 29, .inl (pgF S))), (va, .inl (E 1, 5, .inr (.inr (.inl (fl5 S))))), (ua, .inl (E 0, 29, .inl (pgF (tkN nw nf fl (x3F 0 0 0) (skS S i) ((O9 k).1))))), (ya, .inl (E 1, 5, .inr (.inr (.inl (fl5 (tkN nw nf fl (x3F 0 0 0) (skS S i) ((O9 k).1))))))), (s1, .inl (E 0, 6, .inl (fun yy => nI (O9 yy).1))), (s2, .inl (E 0, 6, .inl (fun yy => nI (O9 yy).2.1))), (s3, .inl (E 0, 6, .inl (fun yy => nI (O9 yy).2.2.1))), (s4, .inl (E 0, 6, .inl (fun yy => b2i (O9 yy).2.2.2)))] H locs := hw
  refine lv_aload_n hx hb dX6_isSo_30 rfl (lv_at hl 0 rfl) ?_
  refine g_get (TT := TX6) hc hw inX6_isSo_X6 0 24 4 rfl rfl (by decide) rfl rfl dX6_isSo_31 ?_
  refine lv_iload_n hx hb dX6_isSo_34 rfl (lv_at hl 2 rfl) ?_
  refine g_ild hc hw 14 k rfl rfl (by omega) (by decide) dX6_isSo_35 ?_
  refine W.eq (congrArg (fun z => F0 m 36 ls (.int z :: [])) (show ((fun yy => nI (O9 yy).2.2.1) k : Int32) = nI ((O9 k).2.2.1) from rfl)) ?_
  refine lv_istore_n (lv' := [(3, .int (nI ((O9 k).2.2.1))), (0, .ref o), (1, .int (nI i)), (2, .int (nI k))]) hx hb dX6_isSo_36 rfl hl (by decide) rfl (fun ls hl => ?_)
  refine lv_aload_n hx hb dX6_isSo_37 rfl (lv_at hl 1 rfl) ?_
  refine g_get (TT := TX6) hc hw inX6_isSo_X6 0 23 5 rfl rfl (by decide) rfl rfl dX6_isSo_38 ?_
  refine lv_iload_n hx hb dX6_isSo_41 rfl (lv_at hl 3 rfl) ?_
  refine g_ild hc hw 13 k rfl rfl (by omega) (by decide) dX6_isSo_42 ?_
  refine W.eq (congrArg (fun z => F0 m 43 ls (.int z :: [])) (show ((fun yy => nI (O9 yy).2.1) k : Int32) = nI ((O9 k).2.1) from rfl)) ?_
  have J108 : ∀ (H : Heap) (locs : List Loc) (ls : Array Slot), g_W D A s [(o, .inr (6, [u0, u1, u2, .ref xa, .int (nI nw), .int (nI nf), .ref fa, u7, u8, u9, u10, .ref pa, .ref va, .ref ua, .ref ya, u15, u16, u17, u18, u19, u20, u21, .ref s1, .ref s2, .ref s3, .ref s4, u26, .ref wa, .ref la, .ref ta, .int (rS K1_u_1), .int (rN K1_u_1), .float (rH K1_u_1), .ref ma, u34, .ref sa])), (xa, .inl (E 0, 12, .inl (g_tv 0))), (fa, .inl (E 0, 18, .inl fl)), (wa, .inl (E 0, 3, .inl (rW K1_u_1))), (la, .inl (E 1, 4, .inr (.inr (.inl (rP K1_u_1))))), (ta, .inl (E 1, 4, .inr (.inr (.inl (rT K1_u_1))))), (ma, .inl (E 1, 3, .inr (.inr (.inl (rM K1_u_1))))), (sa, .inl (E 0, 9, .inl (g_tv 1))), (pa, .inl (E 0, 29, .inl (pgF S))), (va, .inl (E 1, 5, .inr (.inr (.inl (fl5 S))))), (ua, .inl (E 0, 29, .inl (pgF (tkN nw nf fl (x3F 0 0 0) (skS S i) ((O9 k).1))))), (ya, .inl (E 1, 5, .inr (.inr (.inl (fl5 (tkN nw nf fl (x3F 0 0 0) (skS S i) ((O9 k).1))))))), (s1, .inl (E 0, 6, .inl (fun yy => nI (O9 yy).1))), (s2, .inl (E 0, 6, .inl (fun yy => nI (O9 yy).2.1))), (s3, .inl (E 0, 6, .inl (fun yy => nI (O9 yy).2.2.1))), (s4, .inl (E 0, 6, .inl (fun yy => b2i (O9 yy).2.2.2)))] H locs → lv_has ls 5 [(0, .ref o), (1, .int (nI i)), (2, .int (nI k)), (3, .int (nI ((O9 k).2.2.1)))] → W p l e R s m args below meth c H locs 0 0 Q (F0 m 108 ls [.int (b2i (soF (O9 k).2.1 (O9 k).2.2.1 (sM (tkN nw nf fl (x3F 0 0 0) (skS S i) (O9 k).1)) (sI (tkN nw nf fl (x3F 0 0 0) (skS S i) (O9 k).1)) (sF (tkN nw nf fl (x3F 0 0 0) (skS S i) (O9 k).1))))]) := by
    intro   H locs ls hw hl
    refine lv_istore (lv' := [(4, .int (b2i (soF (O9 k).2.1 (O9 k).2.2.1 (sM (tkN nw nf fl (x3F 0 0 0) (skS S i) (O9 k).1)) (sI (tkN nw nf fl (x3F 0 0 0) (skS S i) (O9 k).1)) (sF (tkN nw nf fl (x3F 0 0 0) (skS S i) (O9 k).1))))), (0, .ref o), (1, .int (nI i)), (2, .int (nI k)), (3, .int (nI ((O9 k).2.2.1)))]) hx hb dX6_isSo_108 hl (by decide) rfl (fun ls hl => ?_)
    refine lv_iload hx hb dX6_isSo_110 (lv_at hl 0 rfl) ?_
    refine lv_aload_n hx hb dX6_isSo_112 rfl (lv_at hl 1 rfl) ?_
    refine g_get (TT := TX6) hc hw inX6_isSo_X6 0 25 6 rfl rfl (by decide) rfl rfl dX6_isSo_113 ?_
    refine lv_iload_n hx hb dX6_isSo_116 rfl (lv_at hl 3 rfl) ?_
    refine g_ild hc hw 15 k rfl rfl (by omega) (by decide) dX6_isSo_117 ?_
    refine lv_iconst (v := 1) hx hb dX6_isSo_118 (by decide) ?_
    refine lv_icmp_ne (tgt := 126) hx hb dX6_isSo_119 (by decide) (fun c_119 => ?_) (fun c_119 => ?_)
    · skip
      refine lv_iconst (v := 0) hx hb dX6_isSo_126 (by decide) ?_
      refine lv_icmp_ne (tgt := 134) hx hb dX6_isSo_127 (by decide) (fun c_127 => ?_) (fun c_127 => ?_)
      · skip
        refine lv_iconst (v := 0) hx hb dX6_isSo_134 (by decide) ?_
        exact g_zretE (K1_u_1, (tkN nw nf fl (x3F 0 0 0) (skS S i) ((O9 k).1))) hQ hc hw hr (by exact congrArg (fun z => some (Value.int z)) (b2i_0 (so0n c_119 c_127))) (by first | rfl | (split <;> rfl) | exact g_nb _) rfl dX6_isSo_135
      · skip
        refine lv_iconst (v := 1) hx hb dX6_isSo_130 (by decide) ?_
        refine lv_goto (tgt := 135) hx hb dX6_isSo_131 (by decide) ?_
        exact g_zretE (K1_u_1, (tkN nw nf fl (x3F 0 0 0) (skS S i) ((O9 k).1))) hQ hc hw hr (by exact congrArg (fun z => some (Value.int z)) (b2i_1 (so0y c_119 c_127))) (by first | rfl | (split <;> rfl) | exact g_nb _) rfl dX6_isSo_135
    · skip
      refine lv_iconst (v := 1) hx hb dX6_isSo_122 (by decide) ?_
      refine lv_goto (tgt := 127) hx hb dX6_isSo_123 (by decide) ?_
      refine lv_icmp_ne (tgt := 134) hx hb dX6_isSo_127 (by decide) (fun c_127 => ?_) (fun c_127 => ?_)
      · skip
        refine lv_iconst (v := 0) hx hb dX6_isSo_134 (by decide) ?_
        exact g_zretE (K1_u_1, (tkN nw nf fl (x3F 0 0 0) (skS S i) ((O9 k).1))) hQ hc hw hr (by exact congrArg (fun z => some (Value.int z)) (b2i_0 (so1n c_119 c_127))) (by first | rfl | (split <;> rfl) | exact g_nb _) rfl dX6_isSo_135
      · skip
        refine lv_iconst (v := 1) hx hb dX6_isSo_130 (by decide) ?_
        refine lv_goto (tgt := 135) hx hb dX6_isSo_131 (by decide) ?_
        exact g_zretE (K1_u_1, (tkN nw nf fl (x3F 0 0 0) (skS S i) ((O9 k).1))) hQ hc hw hr (by exact congrArg (fun z => some (Value.int z)) (b2i_1 (so1y c_119 c_127))) (by first | rfl | (split <;> rfl) | exact g_nb _) rfl dX6_isSo_135
  refine lv_if_ne (tgt := 64) hx hb dX6_isSo_43 (by decide) (fun c_43 => ?_) (fun c_43 => ?_)
  · skip
    have n_43 : ¬ ((O9 k).2.1) = 0 := nf_neT rfl rfl (by omega) (by omega) c_43
    refine lv_aload_n hx hb dX6_isSo_64 rfl (lv_at hl 1 rfl) ?_
    refine g_get (TT := TX6) hc hw inX6_isSo_X6 0 23 5 rfl rfl (by decide) rfl rfl dX6_isSo_65 ?_
    refine lv_iload_n hx hb dX6_isSo_68 rfl (lv_at hl 3 rfl) ?_
    refine g_ild hc hw 13 k rfl rfl (by omega) (by decide) dX6_isSo_69 ?_
    refine W.eq (congrArg (fun z => F0 m 70 ls (.int z :: [])) (show ((fun yy => nI (O9 yy).2.1) k : Int32) = nI ((O9 k).2.1) from rfl)) ?_
    refine lv_iconst (v := 1) hx hb dX6_isSo_70 (by decide) ?_
    refine lv_icmp_ne (tgt := 92) hx hb dX6_isSo_71 (by decide) (fun c_71 => ?_) (fun c_71 => ?_)
    · skip
      have n_71 : ¬ ((O9 k).2.1) = 1 := nf_neT rfl rfl (by omega) (by omega) c_71
      refine lv_aload_n hx hb dX6_isSo_92 rfl (lv_at hl 1 rfl) ?_
      refine g_get (TT := TX6) hc hw inX6_isSo_X6 0 14 2 rfl rfl (by decide) rfl rfl dX6_isSo_93 ?_
      refine lv_iload_n hx hb dX6_isSo_96 rfl (lv_at hl 0 rfl) ?_
      refine g_fld hc hw 11 ((O9 k).2.2.1) rfl rfl (by have := ho.2.2.2 (by omega); omega) (by decide) dX6_isSo_97 ?_
      refine W.eq (congrArg (fun z => F0 m 98 ls (.float z :: [])) (show ((fl5 (tkN nw nf fl (x3F 0 0 0) (skS S i) ((O9 k).1))) ((O9 k).2.2.1) : UInt32) = sF (tkN nw nf fl (x3F 0 0 0) (skS S i) ((O9 k).1)) ((O9 k).2.2.1) from (fl5_lt _ (by omega)))) ?_
      refine lv_fconst0 hx hb dX6_isSo_98 ?_
      refine lv_fcmp hx hb dX6_isSo_99 ?_
      refine lv_if_ge (tgt := 107) hx hb dX6_isSo_100 (by decide) (fun c_100 => ?_) (fun c_100 => ?_)
      · skip
        have k_100 := g_cgl c_100
        refine lv_iconst (v := 0) hx hb dX6_isSo_107 (by decide) ?_
        refine W.eq (congrArg (fun z => F0 m 108 ls (.int z :: [])) (show (0 : Int32) = b2i (soF (O9 k).2.1 (O9 k).2.2.1 (sM (tkN nw nf fl (x3F 0 0 0) (skS S i) (O9 k).1)) (sI (tkN nw nf fl (x3F 0 0 0) (skS S i) (O9 k).1)) (sF (tkN nw nf fl (x3F 0 0 0) (skS S i) (O9 k).1))) by exact ((congrArg b2i (soF_2 (by omega))).trans (congrArg b2i k_100)).symm)) ?_
        exact J108   _ _ _ hw (lv_sub hl [1, 2, 3, 0] rfl)
      · skip
        have k_100 := g_cgt c_100
        refine lv_iconst (v := 1) hx hb dX6_isSo_103 (by decide) ?_
        refine lv_goto (tgt := 108) hx hb dX6_isSo_104 (by decide) ?_
        refine W.eq (congrArg (fun z => F0 m 108 ls (.int z :: [])) (show (1 : Int32) = b2i (soF (O9 k).2.1 (O9 k).2.2.1 (sM (tkN nw nf fl (x3F 0 0 0) (skS S i) (O9 k).1)) (sI (tkN nw nf fl (x3F 0 0 0) (skS S i) (O9 k).1)) (sF (tkN nw nf fl (x3F 0 0 0) (skS S i) (O9 k).1))) by exact ((congrArg b2i (soF_2 (by omega))).trans (congrArg b2i k_100)).symm)) ?_
        exact J108   _ _ _ hw (lv_sub hl [1, 2, 3, 0] rfl)
    · skip
      have n_71 : ((O9 k).2.1) = 1 := nf_neF rfl rfl (by omega) (by omega) c_71
      refine lv_aload_n hx hb dX6_isSo_74 rfl (lv_at hl 1 rfl) ?_
      refine g_get (TT := TX6) hc hw inX6_isSo_X6 0 13 1 rfl rfl (by decide) rfl rfl dX6_isSo_75 ?_
      refine lv_iconst (v := 2) hx hb dX6_isSo_78 (by decide) ?_
      refine g_ild hc hw 10 2 rfl rfl (by omega) (by decide) dX6_isSo_79 ?_
      refine W.eq (congrArg (fun z => F0 m 80 ls (.int z :: [])) (show ((pgF (tkN nw nf fl (x3F 0 0 0) (skS S i) ((O9 k).1))) 2 : Int32) = sI (tkN nw nf fl (x3F 0 0 0) (skS S i) ((O9 k).1)) from rfl)) ?_
      refine lv_iload_n hx hb dX6_isSo_80 rfl (lv_at hl 0 rfl) ?_
      refine lv_icmp_ne (tgt := 88) hx hb dX6_isSo_81 (by decide) (fun c_81 => ?_) (fun c_81 => ?_)
      · skip
        refine lv_iconst (v := 0) hx hb dX6_isSo_88 (by decide) ?_
        refine lv_goto (tgt := 108) hx hb dX6_isSo_89 (by decide) ?_
        refine W.eq (congrArg (fun z => F0 m 108 ls (.int z :: [])) (show (0 : Int32) = b2i (soF (O9 k).2.1 (O9 k).2.2.1 (sM (tkN nw nf fl (x3F 0 0 0) (skS S i) (O9 k).1)) (sI (tkN nw nf fl (x3F 0 0 0) (skS S i) (O9 k).1)) (sF (tkN nw nf fl (x3F 0 0 0) (skS S i) (O9 k).1))) by exact ((congrArg b2i (soF_1 n_71)).trans (b2i_0 c_81)).symm)) ?_
        exact J108   _ _ _ hw (lv_sub hl [1, 2, 3, 0] rfl)
      · skip
        refine lv_iconst (v := 1) hx hb dX6_isSo_84 (by decide) ?_
        refine lv_goto (tgt := 108) hx hb dX6_isSo_85 (by decide) ?_
        refine W.eq (congrArg (fun z => F0 m 108 ls (.int z :: [])) (show (1 : Int32) = b2i (soF (O9 k).2.1 (O9 k).2.2.1 (sM (tkN nw nf fl (x3F 0 0 0) (skS S i) (O9 k).1)) (sI (tkN nw nf fl (x3F 0 0 0) (skS S i) (O9 k).1)) (sF (tkN nw nf fl (x3F 0 0 0) (skS S i) (O9 k).1))) by exact ((congrArg b2i (soF_1 n_71)).trans (b2i_1 c_81)).symm)) ?_
        exact J108   _ _ _ hw (lv_sub hl [1, 2, 3, 0] rfl)
  · skip
    have n_43 : ((O9 k).2.1) = 0 := nf_neF rfl rfl (by omega) (by omega) c_43
    refine lv_aload_n hx hb dX6_isSo_46 rfl (lv_at hl 1 rfl) ?_
    refine g_get (TT := TX6) hc hw inX6_isSo_X6 0 13 1 rfl rfl (by decide) rfl rfl dX6_isSo_47 ?_
    refine lv_iconst (v := 1) hx hb dX6_isSo_50 (by decide) ?_
    refine g_ild hc hw 10 1 rfl rfl (by omega) (by decide) dX6_isSo_51 ?_
    refine W.eq (congrArg (fun z => F0 m 52 ls (.int z :: [])) (show ((pgF (tkN nw nf fl (x3F 0 0 0) (skS S i) ((O9 k).1))) 1 : Int32) = sM (tkN nw nf fl (x3F 0 0 0) (skS S i) ((O9 k).1)) from rfl)) ?_
    refine lv_iload_n hx hb dX6_isSo_52 rfl (lv_at hl 0 rfl) ?_
    refine lv_icmp_ne (tgt := 60) hx hb dX6_isSo_53 (by decide) (fun c_53 => ?_) (fun c_53 => ?_)
    · skip
      refine lv_iconst (v := 0) hx hb dX6_isSo_60 (by decide) ?_
      refine lv_goto (tgt := 108) hx hb dX6_isSo_61 (by decide) ?_
      refine W.eq (congrArg (fun z => F0 m 108 ls (.int z :: [])) (show (0 : Int32) = b2i (soF (O9 k).2.1 (O9 k).2.2.1 (sM (tkN nw nf fl (x3F 0 0 0) (skS S i) (O9 k).1)) (sI (tkN nw nf fl (x3F 0 0 0) (skS S i) (O9 k).1)) (sF (tkN nw nf fl (x3F 0 0 0) (skS S i) (O9 k).1))) by exact ((congrArg b2i (soF_0 n_43)).trans (b2i_0 c_53)).symm)) ?_
      exact J108   _ _ _ hw (lv_sub hl [1, 2, 3, 0] rfl)
    · skip
      refine lv_iconst (v := 1) hx hb dX6_isSo_56 (by decide) ?_
      refine lv_goto (tgt := 108) hx hb dX6_isSo_57 (by decide) ?_
      refine W.eq (congrArg (fun z => F0 m 108 ls (.int z :: [])) (show (1 : Int32) = b2i (soF (O9 k).2.1 (O9 k).2.2.1 (sM (tkN nw nf fl (x3F 0 0 0) (skS S i) (O9 k).1)) (sI (tkN nw nf fl (x3F 0 0 0) (skS S i) (O9 k).1)) (sF (tkN nw nf fl (x3F 0 0 0) (skS S i) (O9 k).1))) by exact ((congrArg b2i (soF_0 n_43)).trans (b2i_1 c_53)).symm)) ?_
      exact J108   _ _ _ hw (lv_sub hl [1, 2, 3, 0] rfl)

theorem dX6_which_0 : decode cX6_which 0 = .ok (.aload_n 0, 1) := by decide +kernel
theorem dX6_which_1 : decode cX6_which 1 = .ok (.iconst 0, 1) := by decide +kernel
theorem dX6_which_2 : decode cX6_which 2 = .ok (.putfield 88, 3) := by decide +kernel
theorem dX6_which_5 : decode cX6_which 5 = .ok (.iconst 0, 1) := by decide +kernel
theorem dX6_which_6 : decode cX6_which 6 = .ok (.istore_n 1, 1) := by decide +kernel
theorem dX6_which_7 : decode cX6_which 7 = .ok (.iconst 0, 1) := by decide +kernel
theorem dX6_which_8 : decode cX6_which 8 = .ok (.istore_n 2, 1) := by decide +kernel
theorem dX6_which_9 : decode cX6_which 9 = .ok (.iload_n 2, 1) := by decide +kernel
theorem dX6_which_10 : decode cX6_which 10 = .ok (.iconst 4, 1) := by decide +kernel
theorem dX6_which_11 : decode cX6_which 11 = .ok (.if_icmp .ge 80, 3) := by decide +kernel
theorem dX6_which_14 : decode cX6_which 14 = .ok (.aload_n 0, 1) := by decide +kernel
theorem dX6_which_15 : decode cX6_which 15 = .ok (.getfield 25, 3) := by decide +kernel
theorem dX6_which_18 : decode cX6_which 18 = .ok (.iconst 0, 1) := by decide +kernel
theorem dX6_which_19 : decode cX6_which 19 = .ok (.iaload, 1) := by decide +kernel
theorem dX6_which_20 : decode cX6_which 20 = .ok (.iload_n 2, 1) := by decide +kernel
theorem dX6_which_21 : decode cX6_which 21 = .ok (.invokestatic 139, 3) := by decide +kernel
theorem dX6_which_24 : decode cX6_which 24 = .ok (.ifCond .ne 7, 3) := by decide +kernel
theorem dX6_which_27 : decode cX6_which 27 = .ok (.iconst 1, 1) := by decide +kernel
theorem dX6_which_28 : decode cX6_which 28 = .ok (.goto 4, 3) := by decide +kernel
theorem dX6_which_31 : decode cX6_which 31 = .ok (.iconst 0, 1) := by decide +kernel
theorem dX6_which_32 : decode cX6_which 32 = .ok (.istore_n 3, 1) := by decide +kernel
theorem dX6_which_33 : decode cX6_which 33 = .ok (.iconst 0, 1) := by decide +kernel
theorem dX6_which_34 : decode cX6_which 34 = .ok (.istore 4, 2) := by decide +kernel
theorem dX6_which_36 : decode cX6_which 36 = .ok (.iload 4, 2) := by decide +kernel
theorem dX6_which_38 : decode cX6_which 38 = .ok (.aload_n 0, 1) := by decide +kernel
theorem dX6_which_39 : decode cX6_which 39 = .ok (.getfield 269, 3) := by decide +kernel
theorem dX6_which_42 : decode cX6_which 42 = .ok (.if_icmp .ge 29, 3) := by decide +kernel
theorem dX6_which_45 : decode cX6_which 45 = .ok (.iload_n 3, 1) := by decide +kernel
theorem dX6_which_46 : decode cX6_which 46 = .ok (.ifCond .eq 17, 3) := by decide +kernel
theorem dX6_which_49 : decode cX6_which 49 = .ok (.aload_n 0, 1) := by decide +kernel
theorem dX6_which_50 : decode cX6_which 50 = .ok (.iload_n 2, 1) := by decide +kernel
theorem dX6_which_51 : decode cX6_which 51 = .ok (.iload 4, 2) := by decide +kernel
theorem dX6_which_53 : decode cX6_which 53 = .ok (.invokevirtual 272, 3) := by decide +kernel
theorem dX6_which_56 : decode cX6_which 56 = .ok (.ifCond .eq 7, 3) := by decide +kernel
theorem dX6_which_59 : decode cX6_which 59 = .ok (.iconst 1, 1) := by decide +kernel
theorem dX6_which_60 : decode cX6_which 60 = .ok (.goto 4, 3) := by decide +kernel
theorem dX6_which_63 : decode cX6_which 63 = .ok (.iconst 0, 1) := by decide +kernel
theorem dX6_which_64 : decode cX6_which 64 = .ok (.istore_n 3, 1) := by decide +kernel
theorem dX6_which_65 : decode cX6_which 65 = .ok (.iinc 4 1, 3) := by decide +kernel
theorem dX6_which_68 : decode cX6_which 68 = .ok (.goto (-32), 3) := by decide +kernel
theorem dX6_which_71 : decode cX6_which 71 = .ok (.iload_n 1, 1) := by decide +kernel
theorem dX6_which_72 : decode cX6_which 72 = .ok (.iload_n 3, 1) := by decide +kernel
theorem dX6_which_73 : decode cX6_which 73 = .ok (.ifCond .eq 9, 3) := by decide +kernel
theorem dX6_which_76 : decode cX6_which 76 = .ok (.iconst 1, 1) := by decide +kernel
theorem dX6_which_77 : decode cX6_which 77 = .ok (.iload_n 2, 1) := by decide +kernel
theorem dX6_which_78 : decode cX6_which 78 = .ok (.ishl, 1) := by decide +kernel
theorem dX6_which_79 : decode cX6_which 79 = .ok (.goto 4, 3) := by decide +kernel
theorem dX6_which_82 : decode cX6_which 82 = .ok (.iconst 0, 1) := by decide +kernel
theorem dX6_which_83 : decode cX6_which 83 = .ok (.ior, 1) := by decide +kernel
theorem dX6_which_84 : decode cX6_which 84 = .ok (.istore_n 1, 1) := by decide +kernel
theorem dX6_which_85 : decode cX6_which 85 = .ok (.iinc 2 1, 3) := by decide +kernel
theorem dX6_which_88 : decode cX6_which 88 = .ok (.goto (-79), 3) := by decide +kernel
theorem dX6_which_91 : decode cX6_which 91 = .ok (.iload_n 1, 1) := by decide +kernel
theorem dX6_which_92 : decode cX6_which 92 = .ok (.ireturn, 1) := by decide +kernel
set_option maxRecDepth 20000 in
theorem ggX6_which_X6_has : GoodIn wsX6_which wsX6_has := goodIn_r _ [7] rfl (by decide +kernel)
set_option maxRecDepth 20000 in
theorem gX6_which_X6_has : GoodIn wsX6_which (va_wsS RX6 139 yX6_has wsX6_has) := goodIn_app (goodIn_of _ (by decide +kernel)) ggX6_which_X6_has
set_option maxRecDepth 20000 in
theorem ggX6_which_X6_isSo : GoodIn wsX6_which wsX6_isSo := goodIn_r _ [11, 12, 13, 14, 15, 16, 17, 18, 19, 20, 6, 21, 2, 22, 23, 24, 25, 26, 27, 28, 29, 30, 31, 32, 33, 34, 35, 36, 37, 38, 39, 40, 41, 42, 43, 44, 45, 46, 47, 48, 49, 50, 51, 52, 53, 54, 55, 56, 57, 58, 59, 60, 61, 62, 63, 64, 65, 4, 5, 7, 66, 67, 68, 69, 70, 71, 72, 73, 74, 75, 76, 77, 78, 79, 80, 81, 82, 83, 84, 85, 86, 87, 88, 89, 90, 91, 92, 93, 94, 95, 96, 97, 98, 99, 100, 101, 102, 103, 104, 105, 106, 107, 108, 109, 110, 111, 112, 113, 114, 115, 116, 117, 118, 119, 120, 121, 122, 123, 124, 125, 126, 127, 128, 129, 130, 131, 132, 133, 134, 135, 136, 137] rfl (by decide +kernel)
set_option maxRecDepth 20000 in
theorem gX6_which_X6_isSo : GoodIn wsX6_which (wsV RX6 272 RX6 yX6_isSo wsX6_isSo) := goodIn_app (goodIn_of _ (by decide +kernel)) ggX6_which_X6_isSo
theorem inX6_which_X6 : ∀ w ∈ u_ws RX6 TX6 36, w ∈ wsX6_which := fun w h => List.mem_cons_of_mem _ (List.mem_append_right _ h)
set_option maxRecDepth 100000 in
set_option maxHeartbeats 4000000 in
theorem m_X6_which {l : Launch} {D : va_G} {E : Nat → ClassId} {T : Nat → Nat} (o : Nat) (xa : Nat) (fa : Nat) (wa : Nat) (la : Nat) (ta : Nat) (ma : Nat) (sa : Nat) (nw : Nat) (nf : Nat) (pa : Nat) (va : Nat) (ua : Nat) (ya : Nat) (s1 : Nat) (s2 : Nat) (s3 : Nat) (s4 : Nat) (B : Nat) (u0 : Value) (u1 : Value) (u2 : Value) (u7 : Value) (u8 : Value) (u9 : Value) (u10 : Value) (u15 : Value) (u16 : Value) (u17 : Value) (u18 : Value) (u19 : Value) (u20 : Value) (u26 : Value) (u34 : Value) (fl : Nat → Int32) (S : TS) (U : TS) (K : RJ) (O9 : Nat → Nat × Nat × Nat × Bool) (cn : Nat) (hok : OkS B S) (hB : B + 9 < 2 ^ 31) (hnw : nw ≤ 6) (hnf : nf ≤ 6) (hcn : cn ≤ 6) (hob : ∀ k, (O9 k).1 ≤ 9 ∧ (O9 k).2.1 ≤ 2 ∧ (O9 k).2.2.1 ≤ 99 ∧ ((O9 k).2.1 = 2 → (O9 k).2.2.1 < 4)) : g_ME l D E T yX6_which wsX6_which 8 197 [.ref o] [(o, .inr (6, [u0, u1, u2, .ref xa, .int (nI nw), .int (nI nf), .ref fa, u7, u8, u9, u10, .ref pa, .ref va, .ref ua, .ref ya, u15, u16, u17, u18, u19, u20, .int (nI cn), .ref s1, .ref s2, .ref s3, .ref s4, u26, .ref wa, .ref la, .ref ta, .int (rS K), .int (rN K), .float (rH K), .ref ma, u34, .ref sa])), (xa, .inl (E 0, 12, .inl (g_tv 0))), (fa, .inl (E 0, 18, .inl fl)), (wa, .inl (E 0, 3, .inl (rW K))), (la, .inl (E 1, 4, .inr (.inr (.inl (rP K))))), (ta, .inl (E 1, 4, .inr (.inr (.inl (rT K))))), (ma, .inl (E 1, 3, .inr (.inr (.inl (rM K))))), (sa, .inl (E 0, 9, .inl (g_tv 1))), (pa, .inl (E 0, 29, .inl (pgF S))), (va, .inl (E 1, 5, .inr (.inr (.inl (fl5 S))))), (ua, .inl (E 0, 29, .inl (pgF U))), (ya, .inl (E 1, 5, .inr (.inr (.inl (fl5 U))))), (s1, .inl (E 0, 6, .inl (fun yy => nI (O9 yy).1))), (s2, .inl (E 0, 6, .inl (fun yy => nI (O9 yy).2.1))), (s3, .inl (E 0, 6, .inl (fun yy => nI (O9 yy).2.2.1))), (s4, .inl (E 0, 6, .inl (fun yy => b2i (O9 yy).2.2.2)))] (fun (y9 : RJ × TS) => [(o, .inr (6, [.int 0, u1, u2, .ref xa, .int (nI nw), .int (nI nf), .ref fa, u7, u8, u9, u10, .ref pa, .ref va, .ref ua, .ref ya, u15, u16, u17, u18, u19, u20, .int (nI cn), .ref s1, .ref s2, .ref s3, .ref s4, u26, .ref wa, .ref la, .ref ta, .int (rS y9.1), .int (rN y9.1), .float (rH y9.1), .ref ma, u34, .ref sa])), (xa, .inl (E 0, 12, .inl (g_tv 0))), (fa, .inl (E 0, 18, .inl fl)), (wa, .inl (E 0, 3, .inl (rW y9.1))), (la, .inl (E 1, 4, .inr (.inr (.inl (rP y9.1))))), (ta, .inl (E 1, 4, .inr (.inr (.inl (rT y9.1))))), (ma, .inl (E 1, 3, .inr (.inr (.inl (rM y9.1))))), (sa, .inl (E 0, 9, .inl (g_tv 1))), (pa, .inl (E 0, 29, .inl (pgF S))), (va, .inl (E 1, 5, .inr (.inr (.inl (fl5 S))))), (ua, .inl (E 0, 29, .inl (pgF y9.2))), (ya, .inl (E 1, 5, .inr (.inr (.inl (fl5 y9.2))))), (s1, .inl (E 0, 6, .inl (fun yy => nI (O9 yy).1))), (s2, .inl (E 0, 6, .inl (fun yy => nI (O9 yy).2.1))), (s3, .inl (E 0, 6, .inl (fun yy => nI (O9 yy).2.2.1))), (s4, .inl (E 0, 6, .inl (fun yy => b2i (O9 yy).2.2.2)))]) (some (.int (wcA nw nf fl (x3F 0 0 0) S O9 cn 4))) := by
  refine g_ME.of (cc := cX6_which) (nL := 5) (ret := (some .int)) (own := RX6) (lv := [(0, .ref o)]) (by decide) rfl rfl (Nat.le_of_ble_eq_true rfl) rfl ?_
  intro p e R s m args below meth c A Q H locs ls hR hQ hc hr hw hl
  have hx := hc.1
  have hb := hc.2.1
  have hts := hc.2.2.2.1
  have hown := hc.2.2.2.2.1
  refine lv_aload_n hx hb dX6_which_0 rfl (lv_at hl 0 rfl) ?_
  refine lv_iconst (v := 0) hx hb dX6_which_1 (by decide) ?_
  refine g_put (TT := TX6) hc hw inX6_which_X6 tyX6 tyX6_ok nmX6 0 0 1 rfl rfl (by decide) rfl rfl rfl rfl (Nat.le_of_ble_eq_true rfl) dX6_which_2 (fun H locs hw => ?_)
  have hw : g_W D A s [(o, .inr (6, [.int 0, u1, u2, .ref xa, .int (nI nw), .int (nI nf), .ref fa, u7, u8, u9, u10, .ref pa, .ref va, .ref ua, .ref ya, u15, u16, u17, u18, u19, u20, .int (nI cn), .ref s1, .ref s2, .ref s3, .ref s4, u26, .ref wa, .ref la, .ref ta, .int (rS K), .int (rN K), .float (rH K), .ref ma, u34, .ref sa])), (xa, .inl (E 0, 12, .inl (g_tv 0))), (fa, .inl (E 0, 18, .inl fl)), (wa, .inl (E 0, 3, .inl (rW K))), (la, .inl (E 1, 4, .inr (.inr (.inl (rP K))))), (ta, .inl (E 1, 4, .inr (.inr (.inl (rT K))))), (ma, .inl (E 1, 3, .inr (.inr (.inl (rM K))))), (sa, .inl (E 0, 9, .inl (g_tv 1))), (pa, .inl (E 0, 29, .inl (pgF S))), (va, .inl (E 1, 5, .inr (.inr (.inl (fl5 S))))), (ua, .inl (E 0, 29, .inl (pgF U))), (ya, .inl (E 1, 5, .inr (.inr (.inl (fl5 U))))), (s1, .inl (E 0, 6, .inl (fun yy => nI (O9 yy).1))), (s2, .inl (E 0, 6, .inl (fun yy => nI (O9 yy).2.1))), (s3, .inl (E 0, 6, .inl (fun yy => nI (O9 yy).2.2.1))), (s4, .inl (E 0, 6, .inl (fun yy => b2i (O9 yy).2.2.2)))] H locs := hw
  refine lv_iconst (v := 0) hx hb dX6_which_5 (by decide) ?_
  refine lv_istore_n (lv' := [(1, .int 0), (0, .ref o)]) hx hb dX6_which_6 rfl hl (by decide) rfl (fun ls hl => ?_)
  refine lv_iconst (v := 0) hx hb dX6_which_7 (by decide) ?_
  refine lv_istore_n (lv' := [(2, .int 0), (1, .int 0), (0, .ref o)]) hx hb dX6_which_8 rfl hl (by decide) rfl (fun ls hl => ?_)
  have J9 : ∀ (k9 : Nat) (i : Nat), i + k9 = 4 → ∀ (K1 : RJ) (U1 : TS), ∀ (H : Heap) (locs : List Loc) (ls : Array Slot), g_W D A s [(o, .inr (6, [.int 0, u1, u2, .ref xa, .int (nI nw), .int (nI nf), .ref fa, u7, u8, u9, u10, .ref pa, .ref va, .ref ua, .ref ya, u15, u16, u17, u18, u19, u20, .int (nI cn), .ref s1, .ref s2, .ref s3, .ref s4, u26, .ref wa, .ref la, .ref ta, .int (rS K1), .int (rN K1), .float (rH K1), .ref ma, u34, .ref sa])), (xa, .inl (E 0, 12, .inl (g_tv 0))), (fa, .inl (E 0, 18, .inl fl)), (wa, .inl (E 0, 3, .inl (rW K1))), (la, .inl (E 1, 4, .inr (.inr (.inl (rP K1))))), (ta, .inl (E 1, 4, .inr (.inr (.inl (rT K1))))), (ma, .inl (E 1, 3, .inr (.inr (.inl (rM K1))))), (sa, .inl (E 0, 9, .inl (g_tv 1))), (pa, .inl (E 0, 29, .inl (pgF S))), (va, .inl (E 1, 5, .inr (.inr (.inl (fl5 S))))), (ua, .inl (E 0, 29, .inl (pgF U1))), (ya, .inl (E 1, 5, .inr (.inr (.inl (fl5 U1))))), (s1, .inl (E 0, 6, .inl (fun yy => nI (O9 yy).1))), (s2, .inl (E 0, 6, .inl (fun yy => nI (O9 yy).2.1))), (s3, .inl (E 0, 6, .inl (fun yy => nI (O9 yy).2.2.1))), (s4, .inl (E 0, 6, .inl (fun yy => b2i (O9 yy).2.2.2)))] H locs → lv_has ls 5 [(0, .ref o), (1, .int (wcA nw nf fl (x3F 0 0 0) S O9 cn i)), (2, .int (nI i))] → W p l e R s m args below meth c H locs 0 0 Q (F0 m 9 ls []) := by
    intro k9
    induction k9 with
    | zero =>
      intro i h9 K1 U1  H locs ls hw hl
      have h9 : i = 4 := h9
      subst h9
      refine lv_iload_n hx hb dX6_which_9 rfl (lv_at hl 2 rfl) ?_
      refine lv_iconst (v := 4) hx hb dX6_which_10 (by decide) ?_
      refine lv_icmp_ge (tgt := 91) hx hb dX6_which_11 (by decide) (fun c_11 => ?_) (fun c_11 => absurd (by first | exact Int32.le_refl _ | decide) c_11)
      refine lv_iload_n hx hb dX6_which_91 rfl (lv_at hl 1 rfl) ?_
      exact g_iretE (K1, U1) hQ hc hw hr rfl rfl dX6_which_92
    | succ k9 ih =>
      intro i h9 K1 U1  H locs ls hw hl
      have h9b : i < 4 := by omega
      refine lv_iload_n hx hb dX6_which_9 rfl (lv_at hl 2 rfl) ?_
      refine lv_iconst (v := 4) hx hb dX6_which_10 (by decide) ?_
      refine lv_icmp_ge (tgt := 91) hx hb dX6_which_11 (by decide) (fun c_11 => absurd c_11 (nI_ge h9b (by decide))) (fun c_11 => ?_)
      refine lv_aload_n hx hb dX6_which_14 rfl (lv_at hl 0 rfl) ?_
      refine g_get (TT := TX6) hc hw inX6_which_X6 0 11 2 rfl rfl (by decide) rfl rfl dX6_which_15 ?_
      refine lv_iconst (v := 0) hx hb dX6_which_18 (by decide) ?_
      refine g_ild hc hw 8 0 rfl rfl (by omega) (by decide) dX6_which_19 ?_
      refine W.eq (congrArg (fun z => F0 m 20 ls (.int z :: [])) (show ((pgF S) 0 : Int32) = nI (sD S) from rfl)) ?_
      refine lv_iload_n hx hb dX6_which_20 rfl (lv_at hl 2 rfl) ?_
      refine g_cS (As := [.int (nI (sD S)), .int (nI i)]) (n := 2) (rest := []) (wc := []) (w1 := []) (bytes := cX6_has) (maxL := 2) (ret := (some .boolean)) hc hw hl.1 (m_X6_has (l := l) (D := D) (E := E) (T := T) (sD S) i hok.d (by omega)) gX6_which_X6_has rfl (by decide +kernel) (by rw [hR]; exact ⟨Nat.le_of_ble_eq_true rfl, Nat.le_of_ble_eq_true rfl⟩) [] (by decide) rfl [] rfl rfl rfl rfl (Nat.le_of_ble_eq_true rfl) dX6_which_21 ⟨Nat.zero_le _, Nat.zero_le _⟩ (fun H locs hw => ?_)
      have hw : g_W D A s [(o, .inr (6, [.int 0, u1, u2, .ref xa, .int (nI nw), .int (nI nf), .ref fa, u7, u8, u9, u10, .ref pa, .ref va, .ref ua, .ref ya, u15, u16, u17, u18, u19, u20, .int (nI cn), .ref s1, .ref s2, .ref s3, .ref s4, u26, .ref wa, .ref la, .ref ta, .int (rS K1), .int (rN K1), .float (rH K1), .ref ma, u34, .ref sa])), (xa, .inl (E 0, 12, .inl (g_tv 0))), (fa, .inl (E 0, 18, .inl fl)), (wa, .inl (E 0, 3, .inl (rW K1))), (la, .inl (E 1, 4, .inr (.inr (.inl (rP K1))))), (ta, .inl (E 1, 4, .inr (.inr (.inl (rT K1))))), (ma, .inl (E 1, 3, .inr (.inr (.inl (rM K1))))), (sa, .inl (E 0, 9, .inl (g_tv 1))), (pa, .inl (E 0, 29, .inl (pgF S))), (va, .inl (E 1, 5, .inr (.inr (.inl (fl5 S))))), (ua, .inl (E 0, 29, .inl (pgF U1))), (ya, .inl (E 1, 5, .inr (.inr (.inl (fl5 U1))))), (s1, .inl (E 0, 6, .inl (fun yy => nI (O9 yy).1))), (s2, .inl (E 0, 6, .inl (fun yy => nI (O9 yy).2.1))), (s3, .inl (E 0, 6, .inl (fun yy => nI (O9 yy).2.2.1))), (s4, .inl (E 0, 6, .inl (fun yy => b2i (O9 yy).2.2.2)))] H locs := hw
      refine lv_if_ne (tgt := 31) hx hb dX6_which_24 (by decide) (fun c_24 => ?_) (fun c_24 => ?_)
      · skip
        have k_24 := b2i_ne c_24
        refine lv_iconst (v := 0) hx hb dX6_which_31 (by decide) ?_
        refine lv_istore_n (lv' := [(3, .int 0), (0, .ref o), (1, .int (wcA nw nf fl (x3F 0 0 0) S O9 cn i)), (2, .int (nI i))]) hx hb dX6_which_32 rfl hl (by decide) rfl (fun ls hl => ?_)
        refine lv_iconst (v := 0) hx hb dX6_which_33 (by decide) ?_
        refine lv_istore (lv' := [(4, .int 0), (3, .int 0), (0, .ref o), (1, .int (wcA nw nf fl (x3F 0 0 0) S O9 cn i)), (2, .int (nI i))]) hx hb dX6_which_34 hl (by decide) rfl (fun ls hl => ?_)
        have J36 : ∀ (k9 : Nat) (k : Nat), k + k9 = cn → ∀ (K2 : RJ) (U2 : TS), ∀ (H : Heap) (locs : List Loc) (ls : Array Slot), g_W D A s [(o, .inr (6, [.int 0, u1, u2, .ref xa, .int (nI nw), .int (nI nf), .ref fa, u7, u8, u9, u10, .ref pa, .ref va, .ref ua, .ref ya, u15, u16, u17, u18, u19, u20, .int (nI cn), .ref s1, .ref s2, .ref s3, .ref s4, u26, .ref wa, .ref la, .ref ta, .int (rS K2), .int (rN K2), .float (rH K2), .ref ma, u34, .ref sa])), (xa, .inl (E 0, 12, .inl (g_tv 0))), (fa, .inl (E 0, 18, .inl fl)), (wa, .inl (E 0, 3, .inl (rW K2))), (la, .inl (E 1, 4, .inr (.inr (.inl (rP K2))))), (ta, .inl (E 1, 4, .inr (.inr (.inl (rT K2))))), (ma, .inl (E 1, 3, .inr (.inr (.inl (rM K2))))), (sa, .inl (E 0, 9, .inl (g_tv 1))), (pa, .inl (E 0, 29, .inl (pgF S))), (va, .inl (E 1, 5, .inr (.inr (.inl (fl5 S))))), (ua, .inl (E 0, 29, .inl (pgF U2))), (ya, .inl (E 1, 5, .inr (.inr (.inl (fl5 U2))))), (s1, .inl (E 0, 6, .inl (fun yy => nI (O9 yy).1))), (s2, .inl (E 0, 6, .inl (fun yy => nI (O9 yy).2.1))), (s3, .inl (E 0, 6, .inl (fun yy => nI (O9 yy).2.2.1))), (s4, .inl (E 0, 6, .inl (fun yy => b2i (O9 yy).2.2.2)))] H locs → lv_has ls 5 [(0, .ref o), (1, .int (wcA nw nf fl (x3F 0 0 0) S O9 cn i)), (2, .int (nI i)), (3, .int (b2i (!(sD S).testBit i && xaB nw nf fl (x3F 0 0 0) S O9 i k))), (4, .int (nI k))] → W p l e R s m args below meth c H locs 0 0 Q (F0 m 36 ls []) := by
          intro k9
          induction k9 with
          | zero =>
            intro k h9 K2 U2  H locs ls hw hl
            have h9 : cn = k := Eq.symm h9
            subst h9
            refine lv_iload hx hb dX6_which_36 (lv_at hl 4 rfl) ?_
            refine lv_aload_n hx hb dX6_which_38 rfl (lv_at hl 0 rfl) ?_
            refine g_get (TT := TX6) hc hw inX6_which_X6 0 21 3 rfl rfl (by decide) rfl rfl dX6_which_39 ?_
            refine lv_icmp_ge (tgt := 71) hx hb dX6_which_42 (by decide) (fun c_42 => ?_) (fun c_42 => absurd (by exact Int32.le_refl _) c_42)
            refine lv_iload_n hx hb dX6_which_71 rfl (lv_at hl 1 rfl) ?_
            refine lv_iload_n hx hb dX6_which_72 rfl (lv_at hl 3 rfl) ?_
            refine lv_if_eq (tgt := 82) hx hb dX6_which_73 (by decide) (fun c_73 => ?_) (fun c_73 => ?_)
            · skip
              have k_73 := b2i_eq c_73
              refine lv_iconst (v := 0) hx hb dX6_which_82 (by decide) ?_
              refine lv_ior hx hb dX6_which_83 ?_
              refine lv_istore_n (lv' := [(1, .int ((wcA nw nf fl (x3F 0 0 0) S O9 cn i) ||| 0)), (0, .ref o), (2, .int (nI i)), (3, .int (b2i (!(sD S).testBit i && xaB nw nf fl (x3F 0 0 0) S O9 i cn))), (4, .int (nI cn))]) hx hb dX6_which_84 rfl hl (by decide) rfl (fun ls hl => ?_)
              refine lv_iinc (v := nI (i + 1)) (lv' := [(2, .int (nI (i + 1))), (1, .int ((wcA nw nf fl (x3F 0 0 0) S O9 cn i) ||| 0)), (0, .ref o), (3, .int (b2i (!(sD S).testBit i && xaB nw nf fl (x3F 0 0 0) S O9 i cn))), (4, .int (nI cn))]) hx hb dX6_which_85 hl (k := 2) rfl (n_inc1 rfl) (by decide) rfl (fun ls hl => ?_)
              refine lv_goto (tgt := 9) hx hb dX6_which_88 (by decide) ?_
              have hl := lv_conv hl 1 rfl (v' := (.int (wcA nw nf fl (x3F 0 0 0) S O9 cn (i + 1)))) (by exact congrArg Value.int ((Int32.or_zero).trans (if_neg (wc_F k_73)).symm))
              have hl : lv_has ls 5 [(2, .int (nI (i + 1))), (1, .int (wcA nw nf fl (x3F 0 0 0) S O9 cn (i + 1))), (0, .ref o), (3, .int (b2i (!(sD S).testBit i && xaB nw nf fl (x3F 0 0 0) S O9 i cn))), (4, .int (nI cn))] := hl
              exact ih (i + 1) (by omega) K2 U2  _ _ _ hw (lv_sub hl [2, 1, 0] rfl)
            · skip
              have k_73 := b2i_ne c_73
              refine lv_iconst (v := 1) hx hb dX6_which_76 (by decide) ?_
              refine lv_iload_n hx hb dX6_which_77 rfl (lv_at hl 2 rfl) ?_
              refine lv_ishl hx hb dX6_which_78 ?_
              refine lv_goto (tgt := 83) hx hb dX6_which_79 (by decide) ?_
              refine lv_ior hx hb dX6_which_83 ?_
              refine lv_istore_n (lv' := [(1, .int ((wcA nw nf fl (x3F 0 0 0) S O9 cn i) ||| ((1 : Int32) <<< ((nI i) &&& 31)))), (0, .ref o), (2, .int (nI i)), (3, .int (b2i (!(sD S).testBit i && xaB nw nf fl (x3F 0 0 0) S O9 i cn))), (4, .int (nI cn))]) hx hb dX6_which_84 rfl hl (by decide) rfl (fun ls hl => ?_)
              refine lv_iinc (v := nI (i + 1)) (lv' := [(2, .int (nI (i + 1))), (1, .int ((wcA nw nf fl (x3F 0 0 0) S O9 cn i) ||| ((1 : Int32) <<< ((nI i) &&& 31)))), (0, .ref o), (3, .int (b2i (!(sD S).testBit i && xaB nw nf fl (x3F 0 0 0) S O9 i cn))), (4, .int (nI cn))]) hx hb dX6_which_85 hl (k := 2) rfl (n_inc1 rfl) (by decide) rfl (fun ls hl => ?_)
              refine lv_goto (tgt := 9) hx hb dX6_which_88 (by decide) ?_
              have hl := lv_conv hl 1 rfl (v' := (.int (wcA nw nf fl (x3F 0 0 0) S O9 cn (i + 1)))) (by exact congrArg Value.int ((if_pos (wc_T k_73)).symm))
              have hl : lv_has ls 5 [(2, .int (nI (i + 1))), (1, .int (wcA nw nf fl (x3F 0 0 0) S O9 cn (i + 1))), (0, .ref o), (3, .int (b2i (!(sD S).testBit i && xaB nw nf fl (x3F 0 0 0) S O9 i cn))), (4, .int (nI cn))] := hl
              exact ih (i + 1) (by omega) K2 U2  _ _ _ hw (lv_sub hl [2, 1, 0] rfl)
          | succ k9 ih =>
            intro k h9 K2 U2  H locs ls hw hl
            have h9b : k < cn := by omega
            refine lv_iload hx hb dX6_which_36 (lv_at hl 4 rfl) ?_
            refine lv_aload_n hx hb dX6_which_38 rfl (lv_at hl 0 rfl) ?_
            refine g_get (TT := TX6) hc hw inX6_which_X6 0 21 3 rfl rfl (by decide) rfl rfl dX6_which_39 ?_
            refine lv_icmp_ge (tgt := 71) hx hb dX6_which_42 (by decide) (fun c_42 => absurd c_42 (nI_ge (show k < cn by omega) (by omega))) (fun c_42 => ?_)
            refine lv_iload_n hx hb dX6_which_45 rfl (lv_at hl 3 rfl) ?_
            refine lv_if_eq (tgt := 63) hx hb dX6_which_46 (by decide) (fun c_46 => ?_) (fun c_46 => ?_)
            · skip
              have k_46 := b2i_eq c_46
              refine lv_iconst (v := 0) hx hb dX6_which_63 (by decide) ?_
              refine lv_istore_n (lv' := [(3, .int 0), (0, .ref o), (1, .int (wcA nw nf fl (x3F 0 0 0) S O9 cn i)), (2, .int (nI i)), (4, .int (nI k))]) hx hb dX6_which_64 rfl hl (by decide) rfl (fun ls hl => ?_)
              refine lv_iinc (v := nI (k + 1)) (lv' := [(4, .int (nI (k + 1))), (3, .int 0), (0, .ref o), (1, .int (wcA nw nf fl (x3F 0 0 0) S O9 cn i)), (2, .int (nI i))]) hx hb dX6_which_65 hl (k := 4) rfl (n_inc1 rfl) (by decide) rfl (fun ls hl => ?_)
              refine lv_goto (tgt := 36) hx hb dX6_which_68 (by decide) ?_
              have hl := lv_conv hl 1 rfl (v' := (.int (b2i (!(sD S).testBit i && xaB nw nf fl (x3F 0 0 0) S O9 i (k + 1))))) (by exact congrArg Value.int ((may_0 k_46).symm))
              have hl : lv_has ls 5 [(4, .int (nI (k + 1))), (3, .int (b2i (!(sD S).testBit i && xaB nw nf fl (x3F 0 0 0) S O9 i (k + 1)))), (0, .ref o), (1, .int (wcA nw nf fl (x3F 0 0 0) S O9 cn i)), (2, .int (nI i))] := hl
              exact ih (k + 1) (by omega) K2 U2  _ _ _ hw (lv_sub hl [2, 3, 4, 1, 0] rfl)
            · skip
              have k_46 := b2i_ne c_46
              refine lv_aload_n hx hb dX6_which_49 rfl (lv_at hl 0 rfl) ?_
              refine lv_iload_n hx hb dX6_which_50 rfl (lv_at hl 2 rfl) ?_
              refine lv_iload hx hb dX6_which_51 (lv_at hl 4 rfl) ?_
              refine g_cEV (As := [.int (nI i), .int (nI k)]) (n := 2) (rest := []) (wc := [(o, .inr (6, [.int 0, u1, u2, .ref xa, .int (nI nw), .int (nI nf), .ref fa, u7, u8, u9, u10, .ref pa, .ref va, .ref ua, .ref ya, u15, u16, u17, u18, u19, u20, .int (nI cn), .ref s1, .ref s2, .ref s3, .ref s4, u26, .ref wa, .ref la, .ref ta, .int (rS K2), .int (rN K2), .float (rH K2), .ref ma, u34, .ref sa])), (xa, .inl (E 0, 12, .inl (g_tv 0))), (fa, .inl (E 0, 18, .inl fl)), (wa, .inl (E 0, 3, .inl (rW K2))), (la, .inl (E 1, 4, .inr (.inr (.inl (rP K2))))), (ta, .inl (E 1, 4, .inr (.inr (.inl (rT K2))))), (ma, .inl (E 1, 3, .inr (.inr (.inl (rM K2))))), (sa, .inl (E 0, 9, .inl (g_tv 1))), (pa, .inl (E 0, 29, .inl (pgF S))), (va, .inl (E 1, 5, .inr (.inr (.inl (fl5 S))))), (ua, .inl (E 0, 29, .inl (pgF U2))), (ya, .inl (E 1, 5, .inr (.inr (.inl (fl5 U2))))), (s1, .inl (E 0, 6, .inl (fun yy => nI (O9 yy).1))), (s2, .inl (E 0, 6, .inl (fun yy => nI (O9 yy).2.1))), (s3, .inl (E 0, 6, .inl (fun yy => nI (O9 yy).2.2.1))), (s4, .inl (E 0, 6, .inl (fun yy => b2i (O9 yy).2.2.2)))]) (w1 := (fun (y9 : RJ × TS) => [(o, .inr (6, [.int 0, u1, u2, .ref xa, .int (nI nw), .int (nI nf), .ref fa, u7, u8, u9, u10, .ref pa, .ref va, .ref ua, .ref ya, u15, u16, u17, u18, u19, u20, .int (nI cn), .ref s1, .ref s2, .ref s3, .ref s4, u26, .ref wa, .ref la, .ref ta, .int (rS y9.1), .int (rN y9.1), .float (rH y9.1), .ref ma, u34, .ref sa])), (xa, .inl (E 0, 12, .inl (g_tv 0))), (fa, .inl (E 0, 18, .inl fl)), (wa, .inl (E 0, 3, .inl (rW y9.1))), (la, .inl (E 1, 4, .inr (.inr (.inl (rP y9.1))))), (ta, .inl (E 1, 4, .inr (.inr (.inl (rT y9.1))))), (ma, .inl (E 1, 3, .inr (.inr (.inl (rM y9.1))))), (sa, .inl (E 0, 9, .inl (g_tv 1))), (pa, .inl (E 0, 29, .inl (pgF S))), (va, .inl (E 1, 5, .inr (.inr (.inl (fl5 S))))), (ua, .inl (E 0, 29, .inl (pgF y9.2))), (ya, .inl (E 1, 5, .inr (.inr (.inl (fl5 y9.2))))), (s1, .inl (E 0, 6, .inl (fun yy => nI (O9 yy).1))), (s2, .inl (E 0, 6, .inl (fun yy => nI (O9 yy).2.1))), (s3, .inl (E 0, 6, .inl (fun yy => nI (O9 yy).2.2.1))), (s4, .inl (E 0, 6, .inl (fun yy => b2i (O9 yy).2.2.2)))])) (bytes := cX6_isSo) (maxL := 5) (ret := (some .boolean)) hc hw hl.1 (m_X6_isSo (l := l) (D := D) (E := E) (T := T) o xa fa wa la ta ma sa nw nf pa va ua ya s1 s2 s3 s4 B (.int 0) u1 u2 u7 u8 u9 u10 u15 u16 u17 u18 u19 u20 (.int (nI cn)) u26 u34 fl S U2 K2 O9 i k (by first | assumption | omega | decide) (by first | assumption | omega | decide) (by first | assumption | omega | decide) (by first | assumption | omega | decide) (by omega) (by omega) (by first | assumption | omega | decide)) gX6_which_X6_isSo rfl (by decide +kernel) (by rw [hR]; exact ⟨Nat.le_of_ble_eq_true rfl, Nat.le_of_ble_eq_true rfl⟩) [0, 1, 2, 3, 4, 5, 6, 7, 8, 9, 10, 11, 12, 13, 14, 15] 0 6 rfl rfl (by decide) rfl [o, xa, fa, wa, la, ta, ma, sa, pa, va, ua, ya, s1, s2, s3, s4] (fun _ => rfl) rfl rfl rfl (Nat.le_of_ble_eq_true rfl) dX6_which_53 ⟨Nat.zero_le _, Nat.zero_le _⟩ (fun u_1 H locs hw => ?_)
              obtain ⟨K1_u_1, U1_u_1⟩ := u_1
              have hw : g_W D A s [(o, .inr (6, [.int 0, u1, u2, .ref xa, .int (nI nw), .int (nI nf), .ref fa, u7, u8, u9, u10, .ref pa, .ref va, .ref ua, .ref ya, u15, u16, u17, u18, u19, u20, .int (nI cn), .ref s1, .ref s2, .ref s3, .ref s4, u26, .ref wa, .ref la, .ref ta, .int (rS K1_u_1), .int (rN K1_u_1), .float (rH K1_u_1), .ref ma, u34, .ref sa])), (xa, .inl (E 0, 12, .inl (g_tv 0))), (fa, .inl (E 0, 18, .inl fl)), (wa, .inl (E 0, 3, .inl (rW K1_u_1))), (la, .inl (E 1, 4, .inr (.inr (.inl (rP K1_u_1))))), (ta, .inl (E 1, 4, .inr (.inr (.inl (rT K1_u_1))))), (ma, .inl (E 1, 3, .inr (.inr (.inl (rM K1_u_1))))), (sa, .inl (E 0, 9, .inl (g_tv 1))), (pa, .inl (E 0, 29, .inl (pgF S))), (va, .inl (E 1, 5, .inr (.inr (.inl (fl5 S))))), (ua, .inl (E 0, 29, .inl (pgF U1_u_1))), (ya, .inl (E 1, 5, .inr (.inr (.inl (fl5 U1_u_1))))), (s1, .inl (E 0, 6, .inl (fun yy => nI (O9 yy).1))), (s2, .inl (E 0, 6, .inl (fun yy => nI (O9 yy).2.1))), (s3, .inl (E 0, 6, .inl (fun yy => nI (O9 yy).2.2.1))), (s4, .inl (E 0, 6, .inl (fun yy => b2i (O9 yy).2.2.2)))] H locs := g_sbl (a := 0) (n := 16) (Nat.le_of_ble_eq_true rfl) rfl rfl rfl hw
              refine lv_if_eq (tgt := 63) hx hb dX6_which_56 (by decide) (fun c_56 => ?_) (fun c_56 => ?_)
              · skip
                have k_56 := b2i_eq c_56
                refine lv_iconst (v := 0) hx hb dX6_which_63 (by decide) ?_
                refine lv_istore_n (lv' := [(3, .int 0), (0, .ref o), (1, .int (wcA nw nf fl (x3F 0 0 0) S O9 cn i)), (2, .int (nI i)), (4, .int (nI k))]) hx hb dX6_which_64 rfl hl (by decide) rfl (fun ls hl => ?_)
                refine lv_iinc (v := nI (k + 1)) (lv' := [(4, .int (nI (k + 1))), (3, .int 0), (0, .ref o), (1, .int (wcA nw nf fl (x3F 0 0 0) S O9 cn i)), (2, .int (nI i))]) hx hb dX6_which_65 hl (k := 4) rfl (n_inc1 rfl) (by decide) rfl (fun ls hl => ?_)
                refine lv_goto (tgt := 36) hx hb dX6_which_68 (by decide) ?_
                have hl := lv_conv hl 1 rfl (v' := (.int (b2i (!(sD S).testBit i && xaB nw nf fl (x3F 0 0 0) S O9 i (k + 1))))) (by exact congrArg Value.int ((may_2 k_46 k_56).symm))
                have hl : lv_has ls 5 [(4, .int (nI (k + 1))), (3, .int (b2i (!(sD S).testBit i && xaB nw nf fl (x3F 0 0 0) S O9 i (k + 1)))), (0, .ref o), (1, .int (wcA nw nf fl (x3F 0 0 0) S O9 cn i)), (2, .int (nI i))] := hl
                exact ih (k + 1) (by omega) K1_u_1 U1_u_1  _ _ _ hw (lv_sub hl [2, 3, 4, 1, 0] rfl)
              · skip
                have k_56 := b2i_ne c_56
                refine lv_iconst (v := 1) hx hb dX6_which_59 (by decide) ?_
                refine lv_goto (tgt := 64) hx hb dX6_which_60 (by decide) ?_
                refine lv_istore_n (lv' := [(3, .int 1), (0, .ref o), (1, .int (wcA nw nf fl (x3F 0 0 0) S O9 cn i)), (2, .int (nI i)), (4, .int (nI k))]) hx hb dX6_which_64 rfl hl (by decide) rfl (fun ls hl => ?_)
                refine lv_iinc (v := nI (k + 1)) (lv' := [(4, .int (nI (k + 1))), (3, .int 1), (0, .ref o), (1, .int (wcA nw nf fl (x3F 0 0 0) S O9 cn i)), (2, .int (nI i))]) hx hb dX6_which_65 hl (k := 4) rfl (n_inc1 rfl) (by decide) rfl (fun ls hl => ?_)
                refine lv_goto (tgt := 36) hx hb dX6_which_68 (by decide) ?_
                have hl := lv_conv hl 1 rfl (v' := (.int (b2i (!(sD S).testBit i && xaB nw nf fl (x3F 0 0 0) S O9 i (k + 1))))) (by exact congrArg Value.int ((may_1 k_46 k_56).symm))
                have hl : lv_has ls 5 [(4, .int (nI (k + 1))), (3, .int (b2i (!(sD S).testBit i && xaB nw nf fl (x3F 0 0 0) S O9 i (k + 1)))), (0, .ref o), (1, .int (wcA nw nf fl (x3F 0 0 0) S O9 cn i)), (2, .int (nI i))] := hl
                exact ih (k + 1) (by omega) K1_u_1 U1_u_1  _ _ _ hw (lv_sub hl [2, 3, 4, 1, 0] rfl)
        have hl := lv_conv hl 1 rfl (v' := (.int (b2i (!(sD S).testBit i && xaB nw nf fl (x3F 0 0 0) S O9 i 0)))) (by exact congrArg Value.int (by rw [k_24]; rfl))
        have hl : lv_has ls 5 [(4, .int 0), (3, .int (b2i (!(sD S).testBit i && xaB nw nf fl (x3F 0 0 0) S O9 i 0))), (0, .ref o), (1, .int (wcA nw nf fl (x3F 0 0 0) S O9 cn i)), (2, .int (nI i))] := hl
        have hl := lv_conv hl 0 rfl (v' := (.int (nI 0))) (by rfl)
        have hl : lv_has ls 5 [(4, .int (nI 0)), (3, .int (b2i (!(sD S).testBit i && xaB nw nf fl (x3F 0 0 0) S O9 i 0))), (0, .ref o), (1, .int (wcA nw nf fl (x3F 0 0 0) S O9 cn i)), (2, .int (nI i))] := hl
        exact J36 cn 0 (by omega) K1 U1  _ _ _ hw (lv_sub hl [2, 3, 4, 1, 0] rfl)
      · skip
        have k_24 := b2i_eq c_24
        refine lv_iconst (v := 1) hx hb dX6_which_27 (by decide) ?_
        refine lv_goto (tgt := 32) hx hb dX6_which_28 (by decide) ?_
        refine lv_istore_n (lv' := [(3, .int 1), (0, .ref o), (1, .int (wcA nw nf fl (x3F 0 0 0) S O9 cn i)), (2, .int (nI i))]) hx hb dX6_which_32 rfl hl (by decide) rfl (fun ls hl => ?_)
        refine lv_iconst (v := 0) hx hb dX6_which_33 (by decide) ?_
        refine lv_istore (lv' := [(4, .int 0), (3, .int 1), (0, .ref o), (1, .int (wcA nw nf fl (x3F 0 0 0) S O9 cn i)), (2, .int (nI i))]) hx hb dX6_which_34 hl (by decide) rfl (fun ls hl => ?_)
        have J36 : ∀ (k9 : Nat) (k : Nat), k + k9 = cn → ∀ (K2 : RJ) (U2 : TS), ∀ (H : Heap) (locs : List Loc) (ls : Array Slot), g_W D A s [(o, .inr (6, [.int 0, u1, u2, .ref xa, .int (nI nw), .int (nI nf), .ref fa, u7, u8, u9, u10, .ref pa, .ref va, .ref ua, .ref ya, u15, u16, u17, u18, u19, u20, .int (nI cn), .ref s1, .ref s2, .ref s3, .ref s4, u26, .ref wa, .ref la, .ref ta, .int (rS K2), .int (rN K2), .float (rH K2), .ref ma, u34, .ref sa])), (xa, .inl (E 0, 12, .inl (g_tv 0))), (fa, .inl (E 0, 18, .inl fl)), (wa, .inl (E 0, 3, .inl (rW K2))), (la, .inl (E 1, 4, .inr (.inr (.inl (rP K2))))), (ta, .inl (E 1, 4, .inr (.inr (.inl (rT K2))))), (ma, .inl (E 1, 3, .inr (.inr (.inl (rM K2))))), (sa, .inl (E 0, 9, .inl (g_tv 1))), (pa, .inl (E 0, 29, .inl (pgF S))), (va, .inl (E 1, 5, .inr (.inr (.inl (fl5 S))))), (ua, .inl (E 0, 29, .inl (pgF U2))), (ya, .inl (E 1, 5, .inr (.inr (.inl (fl5 U2))))), (s1, .inl (E 0, 6, .inl (fun yy => nI (O9 yy).1))), (s2, .inl (E 0, 6, .inl (fun yy => nI (O9 yy).2.1))), (s3, .inl (E 0, 6, .inl (fun yy => nI (O9 yy).2.2.1))), (s4, .inl (E 0, 6, .inl (fun yy => b2i (O9 yy).2.2.2)))] H locs → lv_has ls 5 [(0, .ref o), (1, .int (wcA nw nf fl (x3F 0 0 0) S O9 cn i)), (2, .int (nI i)), (3, .int (b2i (!(sD S).testBit i && xaB nw nf fl (x3F 0 0 0) S O9 i k))), (4, .int (nI k))] → W p l e R s m args below meth c H locs 0 0 Q (F0 m 36 ls []) := by
          intro k9
          induction k9 with
          | zero =>
            intro k h9 K2 U2  H locs ls hw hl
            have h9 : cn = k := Eq.symm h9
            subst h9
            refine lv_iload hx hb dX6_which_36 (lv_at hl 4 rfl) ?_
            refine lv_aload_n hx hb dX6_which_38 rfl (lv_at hl 0 rfl) ?_
            refine g_get (TT := TX6) hc hw inX6_which_X6 0 21 3 rfl rfl (by decide) rfl rfl dX6_which_39 ?_
            refine lv_icmp_ge (tgt := 71) hx hb dX6_which_42 (by decide) (fun c_42 => ?_) (fun c_42 => absurd (by exact Int32.le_refl _) c_42)
            refine lv_iload_n hx hb dX6_which_71 rfl (lv_at hl 1 rfl) ?_
            refine lv_iload_n hx hb dX6_which_72 rfl (lv_at hl 3 rfl) ?_
            refine lv_if_eq (tgt := 82) hx hb dX6_which_73 (by decide) (fun c_73 => ?_) (fun c_73 => ?_)
            · skip
              have k_73 := b2i_eq c_73
              refine lv_iconst (v := 0) hx hb dX6_which_82 (by decide) ?_
              refine lv_ior hx hb dX6_which_83 ?_
              refine lv_istore_n (lv' := [(1, .int ((wcA nw nf fl (x3F 0 0 0) S O9 cn i) ||| 0)), (0, .ref o), (2, .int (nI i)), (3, .int (b2i (!(sD S).testBit i && xaB nw nf fl (x3F 0 0 0) S O9 i cn))), (4, .int (nI cn))]) hx hb dX6_which_84 rfl hl (by decide) rfl (fun ls hl => ?_)
              refine lv_iinc (v := nI (i + 1)) (lv' := [(2, .int (nI (i + 1))), (1, .int ((wcA nw nf fl (x3F 0 0 0) S O9 cn i) ||| 0)), (0, .ref o), (3, .int (b2i (!(sD S).testBit i && xaB nw nf fl (x3F 0 0 0) S O9 i cn))), (4, .int (nI cn))]) hx hb dX6_which_85 hl (k := 2) rfl (n_inc1 rfl) (by decide) rfl (fun ls hl => ?_)
              refine lv_goto (tgt := 9) hx hb dX6_which_88 (by decide) ?_
              have hl := lv_conv hl 1 rfl (v' := (.int (wcA nw nf fl (x3F 0 0 0) S O9 cn (i + 1)))) (by exact congrArg Value.int ((Int32.or_zero).trans (if_neg (wc_F k_73)).symm))
              have hl : lv_has ls 5 [(2, .int (nI (i + 1))), (1, .int (wcA nw nf fl (x3F 0 0 0) S O9 cn (i + 1))), (0, .ref o), (3, .int (b2i (!(sD S).testBit i && xaB nw nf fl (x3F 0 0 0) S O9 i cn))), (4, .int (nI cn))] := hl
              exact ih (i + 1) (by omega) K2 U2  _ _ _ hw (lv_sub hl [2, 1, 0] rfl)
            · skip
              have k_73 := b2i_ne c_73
              refine lv_iconst (v := 1) hx hb dX6_which_76 (by decide) ?_
              refine lv_iload_n hx hb dX6_which_77 rfl (lv_at hl 2 rfl) ?_
              refine lv_ishl hx hb dX6_which_78 ?_
              refine lv_goto (tgt := 83) hx hb dX6_which_79 (by decide) ?_
              refine lv_ior hx hb dX6_which_83 ?_
              refine lv_istore_n (lv' := [(1, .int ((wcA nw nf fl (x3F 0 0 0) S O9 cn i) ||| ((1 : Int32) <<< ((nI i) &&& 31)))), (0, .ref o), (2, .int (nI i)), (3, .int (b2i (!(sD S).testBit i && xaB nw nf fl (x3F 0 0 0) S O9 i cn))), (4, .int (nI cn))]) hx hb dX6_which_84 rfl hl (by decide) rfl (fun ls hl => ?_)
              refine lv_iinc (v := nI (i + 1)) (lv' := [(2, .int (nI (i + 1))), (1, .int ((wcA nw nf fl (x3F 0 0 0) S O9 cn i) ||| ((1 : Int32) <<< ((nI i) &&& 31)))), (0, .ref o), (3, .int (b2i (!(sD S).testBit i && xaB nw nf fl (x3F 0 0 0) S O9 i cn))), (4, .int (nI cn))]) hx hb dX6_which_85 hl (k := 2) rfl (n_inc1 rfl) (by decide) rfl (fun ls hl => ?_)
              refine lv_goto (tgt := 9) hx hb dX6_which_88 (by decide) ?_
              have hl := lv_conv hl 1 rfl (v' := (.int (wcA nw nf fl (x3F 0 0 0) S O9 cn (i + 1)))) (by exact congrArg Value.int ((if_pos (wc_T k_73)).symm))
              have hl : lv_has ls 5 [(2, .int (nI (i + 1))), (1, .int (wcA nw nf fl (x3F 0 0 0) S O9 cn (i + 1))), (0, .ref o), (3, .int (b2i (!(sD S).testBit i && xaB nw nf fl (x3F 0 0 0) S O9 i cn))), (4, .int (nI cn))] := hl
              exact ih (i + 1) (by omega) K2 U2  _ _ _ hw (lv_sub hl [2, 1, 0] rfl)
          | succ k9 ih =>
            intro k h9 K2 U2  H locs ls hw hl
            have h9b : k < cn := by omega
            refine lv_iload hx hb dX6_which_36 (lv_at hl 4 rfl) ?_
            refine lv_aload_n hx hb dX6_which_38 rfl (lv_at hl 0 rfl) ?_
            refine g_get (TT := TX6) hc hw inX6_which_X6 0 21 3 rfl rfl (by decide) rfl rfl dX6_which_39 ?_
            refine lv_icmp_ge (tgt := 71) hx hb dX6_which_42 (by decide) (fun c_42 => absurd c_42 (nI_ge (show k < cn by omega) (by omega))) (fun c_42 => ?_)
            refine lv_iload_n hx hb dX6_which_45 rfl (lv_at hl 3 rfl) ?_
            refine lv_if_eq (tgt := 63) hx hb dX6_which_46 (by decide) (fun c_46 => ?_) (fun c_46 => ?_)
            · skip
              have k_46 := b2i_eq c_46
              refine lv_iconst (v := 0) hx hb dX6_which_63 (by decide) ?_
              refine lv_istore_n (lv' := [(3, .int 0), (0, .ref o), (1, .int (wcA nw nf fl (x3F 0 0 0) S O9 cn i)), (2, .int (nI i)), (4, .int (nI k))]) hx hb dX6_which_64 rfl hl (by decide) rfl (fun ls hl => ?_)
              refine lv_iinc (v := nI (k + 1)) (lv' := [(4, .int (nI (k + 1))), (3, .int 0), (0, .ref o), (1, .int (wcA nw nf fl (x3F 0 0 0) S O9 cn i)), (2, .int (nI i))]) hx hb dX6_which_65 hl (k := 4) rfl (n_inc1 rfl) (by decide) rfl (fun ls hl => ?_)
              refine lv_goto (tgt := 36) hx hb dX6_which_68 (by decide) ?_
              have hl := lv_conv hl 1 rfl (v' := (.int (b2i (!(sD S).testBit i && xaB nw nf fl (x3F 0 0 0) S O9 i (k + 1))))) (by exact congrArg Value.int ((may_0 k_46).symm))
              have hl : lv_has ls 5 [(4, .int (nI (k + 1))), (3, .int (b2i (!(sD S).testBit i && xaB nw nf fl (x3F 0 0 0) S O9 i (k + 1)))), (0, .ref o), (1, .int (wcA nw nf fl (x3F 0 0 0) S O9 cn i)), (2, .int (nI i))] := hl
              exact ih (k + 1) (by omega) K2 U2  _ _ _ hw (lv_sub hl [2, 3, 4, 1, 0] rfl)
            · skip
              have k_46 := b2i_ne c_46
              refine lv_aload_n hx hb dX6_which_49 rfl (lv_at hl 0 rfl) ?_
              refine lv_iload_n hx hb dX6_which_50 rfl (lv_at hl 2 rfl) ?_
              refine lv_iload hx hb dX6_which_51 (lv_at hl 4 rfl) ?_
              refine g_cEV (As := [.int (nI i), .int (nI k)]) (n := 2) (rest := []) (wc := [(o, .inr (6, [.int 0, u1, u2, .ref xa, .int (nI nw), .int (nI nf), .ref fa, u7, u8, u9, u10, .ref pa, .ref va, .ref ua, .ref ya, u15, u16, u17, u18, u19, u20, .int (nI cn), .ref s1, .ref s2, .ref s3, .ref s4, u26, .ref wa, .ref la, .ref ta, .int (rS K2), .int (rN K2), .float (rH K2), .ref ma, u34, .ref sa])), (xa, .inl (E 0, 12, .inl (g_tv 0))), (fa, .inl (E 0, 18, .inl fl)), (wa, .inl (E 0, 3, .inl (rW K2))), (la, .inl (E 1, 4, .inr (.inr (.inl (rP K2))))), (ta, .inl (E 1, 4, .inr (.inr (.inl (rT K2))))), (ma, .inl (E 1, 3, .inr (.inr (.inl (rM K2))))), (sa, .inl (E 0, 9, .inl (g_tv 1))), (pa, .inl (E 0, 29, .inl (pgF S))), (va, .inl (E 1, 5, .inr (.inr (.inl (fl5 S))))), (ua, .inl (E 0, 29, .inl (pgF U2))), (ya, .inl (E 1, 5, .inr (.inr (.inl (fl5 U2))))), (s1, .inl (E 0, 6, .inl (fun yy => nI (O9 yy).1))), (s2, .inl (E 0, 6, .inl (fun yy => nI (O9 yy).2.1))), (s3, .inl (E 0, 6, .inl (fun yy => nI (O9 yy).2.2.1))), (s4, .inl (E 0, 6, .inl (fun yy => b2i (O9 yy).2.2.2)))]) (w1 := (fun (y9 : RJ × TS) => [(o, .inr (6, [.int 0, u1, u2, .ref xa, .int (nI nw), .int (nI nf), .ref fa, u7, u8, u9, u10, .ref pa, .ref va, .ref ua, .ref ya, u15, u16, u17, u18, u19, u20, .int (nI cn), .ref s1, .ref s2, .ref s3, .ref s4, u26, .ref wa, .ref la, .ref ta, .int (rS y9.1), .int (rN y9.1), .float (rH y9.1), .ref ma, u34, .ref sa])), (xa, .inl (E 0, 12, .inl (g_tv 0))), (fa, .inl (E 0, 18, .inl fl)), (wa, .inl (E 0, 3, .inl (rW y9.1))), (la, .inl (E 1, 4, .inr (.inr (.inl (rP y9.1))))), (ta, .inl (E 1, 4, .inr (.inr (.inl (rT y9.1))))), (ma, .inl (E 1, 3, .inr (.inr (.inl (rM y9.1))))), (sa, .inl (E 0, 9, .inl (g_tv 1))), (pa, .inl (E 0, 29, .inl (pgF S))), (va, .inl (E 1, 5, .inr (.inr (.inl (fl5 S))))), (ua, .inl (E 0, 29, .inl (pgF y9.2))), (ya, .inl (E 1, 5, .inr (.inr (.inl (fl5 y9.2))))), (s1, .inl (E 0, 6, .inl (fun yy => nI (O9 yy).1))), (s2, .inl (E 0, 6, .inl (fun yy => nI (O9 yy).2.1))), (s3, .inl (E 0, 6, .inl (fun yy => nI (O9 yy).2.2.1))), (s4, .inl (E 0, 6, .inl (fun yy => b2i (O9 yy).2.2.2)))])) (bytes := cX6_isSo) (maxL := 5) (ret := (some .boolean)) hc hw hl.1 (m_X6_isSo (l := l) (D := D) (E := E) (T := T) o xa fa wa la ta ma sa nw nf pa va ua ya s1 s2 s3 s4 B (.int 0) u1 u2 u7 u8 u9 u10 u15 u16 u17 u18 u19 u20 (.int (nI cn)) u26 u34 fl S U2 K2 O9 i k (by first | assumption | omega | decide) (by first | assumption | omega | decide) (by first | assumption | omega | decide) (by first | assumption | omega | decide) (by omega) (by omega) (by first | assumption | omega | decide)) gX6_which_X6_isSo rfl (by decide +kernel) (by rw [hR]; exact ⟨Nat.le_of_ble_eq_true rfl, Nat.le_of_ble_eq_true rfl⟩) [0, 1, 2, 3, 4, 5, 6, 7, 8, 9, 10, 11, 12, 13, 14, 15] 0 6 rfl rfl (by decide) rfl [o, xa, fa, wa, la, ta, ma, sa, pa, va, ua, ya, s1, s2, s3, s4] (fun _ => rfl) rfl rfl rfl (Nat.le_of_ble_eq_true rfl) dX6_which_53 ⟨Nat.zero_le _, Nat.zero_le _⟩ (fun u_2 H locs hw => ?_)
              obtain ⟨K1_u_2, U1_u_2⟩ := u_2
              have hw : g_W D A s [(o, .inr (6, [.int 0, u1, u2, .ref xa, .int (nI nw), .int (nI nf), .ref fa, u7, u8, u9, u10, .ref pa, .ref va, .ref ua, .ref ya, u15, u16, u17, u18, u19, u20, .int (nI cn), .ref s1, .ref s2, .ref s3, .ref s4, u26, .ref wa, .ref la, .ref ta, .int (rS K1_u_2), .int (rN K1_u_2), .float (rH K1_u_2), .ref ma, u34, .ref sa])), (xa, .inl (E 0, 12, .inl (g_tv 0))), (fa, .inl (E 0, 18, .inl fl)), (wa, .inl (E 0, 3, .inl (rW K1_u_2))), (la, .inl (E 1, 4, .inr (.inr (.inl (rP K1_u_2))))), (ta, .inl (E 1, 4, .inr (.inr (.inl (rT K1_u_2))))), (ma, .inl (E 1, 3, .inr (.inr (.inl (rM K1_u_2))))), (sa, .inl (E 0, 9, .inl (g_tv 1))), (pa, .inl (E 0, 29, .inl (pgF S))), (va, .inl (E 1, 5, .inr (.inr (.inl (fl5 S))))), (ua, .inl (E 0, 29, .inl (pgF U1_u_2))), (ya, .inl (E 1, 5, .inr (.inr (.inl (fl5 U1_u_2))))), (s1, .inl (E 0, 6, .inl (fun yy => nI (O9 yy).1))), (s2, .inl (E 0, 6, .inl (fun yy => nI (O9 yy).2.1))), (s3, .inl (E 0, 6, .inl (fun yy => nI (O9 yy).2.2.1))), (s4, .inl (E 0, 6, .inl (fun yy => b2i (O9 yy).2.2.2)))] H locs := g_sbl (a := 0) (n := 16) (Nat.le_of_ble_eq_true rfl) rfl rfl rfl hw
              refine lv_if_eq (tgt := 63) hx hb dX6_which_56 (by decide) (fun c_56 => ?_) (fun c_56 => ?_)
              · skip
                have k_56 := b2i_eq c_56
                refine lv_iconst (v := 0) hx hb dX6_which_63 (by decide) ?_
                refine lv_istore_n (lv' := [(3, .int 0), (0, .ref o), (1, .int (wcA nw nf fl (x3F 0 0 0) S O9 cn i)), (2, .int (nI i)), (4, .int (nI k))]) hx hb dX6_which_64 rfl hl (by decide) rfl (fun ls hl => ?_)
                refine lv_iinc (v := nI (k + 1)) (lv' := [(4, .int (nI (k + 1))), (3, .int 0), (0, .ref o), (1, .int (wcA nw nf fl (x3F 0 0 0) S O9 cn i)), (2, .int (nI i))]) hx hb dX6_which_65 hl (k := 4) rfl (n_inc1 rfl) (by decide) rfl (fun ls hl => ?_)
                refine lv_goto (tgt := 36) hx hb dX6_which_68 (by decide) ?_
                have hl := lv_conv hl 1 rfl (v' := (.int (b2i (!(sD S).testBit i && xaB nw nf fl (x3F 0 0 0) S O9 i (k + 1))))) (by exact congrArg Value.int ((may_2 k_46 k_56).symm))
                have hl : lv_has ls 5 [(4, .int (nI (k + 1))), (3, .int (b2i (!(sD S).testBit i && xaB nw nf fl (x3F 0 0 0) S O9 i (k + 1)))), (0, .ref o), (1, .int (wcA nw nf fl (x3F 0 0 0) S O9 cn i)), (2, .int (nI i))] := hl
                exact ih (k + 1) (by omega) K1_u_2 U1_u_2  _ _ _ hw (lv_sub hl [2, 3, 4, 1, 0] rfl)
              · skip
                have k_56 := b2i_ne c_56
                refine lv_iconst (v := 1) hx hb dX6_which_59 (by decide) ?_
                refine lv_goto (tgt := 64) hx hb dX6_which_60 (by decide) ?_
                refine lv_istore_n (lv' := [(3, .int 1), (0, .ref o), (1, .int (wcA nw nf fl (x3F 0 0 0) S O9 cn i)), (2, .int (nI i)), (4, .int (nI k))]) hx hb dX6_which_64 rfl hl (by decide) rfl (fun ls hl => ?_)
                refine lv_iinc (v := nI (k + 1)) (lv' := [(4, .int (nI (k + 1))), (3, .int 1), (0, .ref o), (1, .int (wcA nw nf fl (x3F 0 0 0) S O9 cn i)), (2, .int (nI i))]) hx hb dX6_which_65 hl (k := 4) rfl (n_inc1 rfl) (by decide) rfl (fun ls hl => ?_)
                refine lv_goto (tgt := 36) hx hb dX6_which_68 (by decide) ?_
                have hl := lv_conv hl 1 rfl (v' := (.int (b2i (!(sD S).testBit i && xaB nw nf fl (x3F 0 0 0) S O9 i (k + 1))))) (by exact congrArg Value.int ((may_1 k_46 k_56).symm))
                have hl : lv_has ls 5 [(4, .int (nI (k + 1))), (3, .int (b2i (!(sD S).testBit i && xaB nw nf fl (x3F 0 0 0) S O9 i (k + 1)))), (0, .ref o), (1, .int (wcA nw nf fl (x3F 0 0 0) S O9 cn i)), (2, .int (nI i))] := hl
                exact ih (k + 1) (by omega) K1_u_2 U1_u_2  _ _ _ hw (lv_sub hl [2, 3, 4, 1, 0] rfl)
        have hl := lv_conv hl 1 rfl (v' := (.int (b2i (!(sD S).testBit i && xaB nw nf fl (x3F 0 0 0) S O9 i 0)))) (by exact congrArg Value.int (by rw [k_24]; rfl))
        have hl : lv_has ls 5 [(4, .int 0), (3, .int (b2i (!(sD S).testBit i && xaB nw nf fl (x3F 0 0 0) S O9 i 0))), (0, .ref o), (1, .int (wcA nw nf fl (x3F 0 0 0) S O9 cn i)), (2, .int (nI i))] := hl
        have hl := lv_conv hl 0 rfl (v' := (.int (nI 0))) (by rfl)
        have hl : lv_has ls 5 [(4, .int (nI 0)), (3, .int (b2i (!(sD S).testBit i && xaB nw nf fl (x3F 0 0 0) S O9 i 0))), (0, .ref o), (1, .int (wcA nw nf fl (x3F 0 0 0) S O9 cn i)), (2, .int (nI i))] := hl
        exact J36 cn 0 (by omega) K1 U1  _ _ _ hw (lv_sub hl [2, 3, 4, 1, 0] rfl)
  have hl := lv_conv hl 1 rfl (v' := (.int (wcA nw nf fl (x3F 0 0 0) S O9 cn 0))) (by rfl)
  have hl : lv_has ls 5 [(2, .int 0), (1, .int (wcA nw nf fl (x3F 0 0 0) S O9 cn 0)), (0, .ref o)] := hl
  have hl := lv_conv hl 0 rfl (v' := (.int (nI 0))) (by rfl)
  have hl : lv_has ls 5 [(2, .int (nI 0)), (1, .int (wcA nw nf fl (x3F 0 0 0) S O9 cn 0)), (0, .ref o)] := hl
  exact J9 4 0 (by omega) K U  _ _ _ hw (lv_sub hl [2, 1, 0] rfl)
end P26
