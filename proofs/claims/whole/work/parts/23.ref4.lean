section P23
theorem bit_32 (x : UInt32) : bitI x = x.toInt32 := by
  apply Int32.toBitVec_inj.mp
  apply BitVec.eq_of_toNat_eq
  show (BitVec.ofNat 32 x.toNat).toNat = x.toBitVec.toNat
  rw [BitVec.toNat_ofNat]
  exact Nat.mod_eq_of_lt x.toNat_lt
/-- a method's contract out of its body, of a class that natives may stand in for, where none stands for this method -/
theorem g_metF {l : Launch} {y : MethodName} {ws ws' : List Cond} {rm : Room} {Pc : Array Value → State → Prop} {Qc : Array Value → State → Outcome → State → Prop} {mc ms : Nat} {free : Addr → Prop} {cc : ByteArray} {maxL : Nat} {ret : Option FieldType} (hy : plainFor y = true) (hw : ws = Cond.code y cc maxL ret :: ws')
    (body : ∀ (p : Program) (e : Env) (s : State) (m : MethodId) (args : Array Value) (below : List Frame) (meth : Method) (c : Code) (s1 : State), BodyLoose p l y (headSpec ws rm) cc maxL ret e s m args below meth c s1 → c.maxLocals = maxL → Pc args s → W p l e (headSpec ws rm).room s m args below meth c s.heap [] 0 0 (MQ below Qc args s mc ms free) (entryFrame m args maxL)) : Met l y ws rm Pc Qc mc ms free := by
  refine MetFree.of_bodySF (code := cc) (maxLocals := maxL) (ret := ret) hy ?_ ?_
  · intro args s m h hn
    obtain ⟨meth, c, h1, h2, h3, h4, h5, h6, -, -⟩ := Cond.code_spec hn (atoms_spec (ws := ws) h _ (by rw [hw]; exact List.mem_cons_self))
    exact ⟨meth, c, h1, h2, h3, h4, h5, h6⟩
  · intro p e s m args below meth c s1 B hml hP _
    have hh0 : s1.heap = s.heap := by rw [B.state]; rfl
    obtain ⟨t, a1, o, b1, b2, b3⟩ := body p e s m args below meth c s1 B hml hP s1 hh0 (Stand.of_body B)
    exact ⟨t, o, a1, b1, b2, b3⟩
theorem g_M.ofF {l : Launch} {D : va_G} {E : Nat → ClassId} {T : Nat → Nat} {y : MethodName} {wy wy' : List Cond} {fr lo : Nat} {av : List Value} {ws ws1 : va_W} {o : Option Value} {cc : ByteArray} {nL : Nat} {ret : Option FieldType} {own : String} {lv : List (Nat × Value)} (hy : plainFor y = true) (hw : wy = Cond.code y cc nL ret :: wy') (hcl : y.cls = own) (hlen : (lg_sl av).length ≤ nL) (hlv : lv_args 0 av = lv)
    (body : ∀ (p : Program) (e : Env) (R : Room) (s : State) (m : MethodId) (args : Array Value) (below : List Frame) (meth : Method) (c : Code) (A : Nat → Prop) (Q : State → Prop) (H : Heap) (locs : List Loc) (ls : Array Slot), R = g_R fr lo → Q = g_Q below D A s args ws1 o → g_C p s m args meth c cc own wy nL D E T A → meth.sig.returnType = ret → g_W D A s ws H locs → lv_has ls nL lv → W p l e R s m args below meth c H locs 0 0 Q (F0 m 0 ls [])) : g_M l D E T y wy fr lo av ws ws1 o := by
  intro sz
  refine g_metF (cc := cc) (maxL := nL) (ret := ret) hy hw ?_
  intro p e s m args below meth c s₁ B hml hv
  obtain ⟨rfl, hsz, hP, hK, hD0, hSt, hNs⟩ := hv
  subst hsz
  have hts := atoms_spec (ws := wy) B.pre
  have hown : s.vm.findClass own = some m.cls := by
    have := findClass_of_methodNamed B.named
    rw [← hcl]
    exact this
  have hD := hD0.self (sz := s.heap.size)
  have hl := lv_entry av (n := nL) hlen
  rw [hlv] at hl
  rw [lg_entry_eq]
  exact body p e _ s m _ below meth c (va_A ws s.heap.size) _ _ _ _ rfl rfl ⟨B.exec, B.bytes, hml, hts, hown, hK, hSt, hNs, fun q h => Or.inr h, B.notSynchronized⟩ B.returns ⟨hP, hD, va_S.rf⟩ hl
theorem fig_eq : ∀ t, t < 256 → ∀ a, a < 2 → inL ((nI t - 48 : Int32).toInt64) ((nI a).toInt64) 9 = decide (48 + a ≤ t ∧ t ≤ 57) := by decide +kernel
/-- a letter of a part -/
abbrev ptP (t a rw9 rf9 : Nat) : Prop := (a = 0 ∧ ((t = 119 ∧ rw9 < 6) ∨ (t = 102 ∧ rf9 < 6))) ∨ (a ≠ 0 ∧ ((a % 2 = 1 ∧ (t = 43 ∨ t = 45)) ∨ (a % 2 = 0 ∧ 48 ≤ t ∧ t ≤ 57)))
def nuF (tt : Nat → Nat) (k : Nat) : Int32 := if tt k = 45 then -(dgF tt (k + 1)) else dgF tt (k + 1)
theorem nu_n {tt : Nat → Nat} {k : Nat} (h : tt k = 45) : (48 : Int32) - nI (tt (k + 1)) = nuF tt k := by
  rw [nuF, if_pos h, dgF, Int32.neg_sub]
theorem nu_p {tt : Nat → Nat} {k : Nat} (h : ¬ tt k = 45) : nI (tt (k + 1)) - 48 = nuF tt k := (if_neg h).symm
theorem ab_n {x : Int32} (h : ¬ x ≥ 0) : -x = if 0 ≤ x then x else 0 - x := by
  rw [if_neg h, Int32.zero_sub]
theorem gcd_1 (w u : Nat) : Nat.gcd (w % u) u = Nat.gcd w u := by
  rw [Nat.gcd_comm w u, Nat.gcd_rec u w]
/-- dead are just these -/
def dvS (S : TS) (d : Nat) : TS := (sF S, sT S, sW S, d, spM d (sM S), sP S, sI S, sC S, sA S, sR S, sK S)
theorem fl_dv (S : TS) (d : Nat) : fl5 (dvS S d) = fl5 S := rfl
theorem dv_1 (S : TS) {d : Nat} (h : 1 < pcn d) : pgF (wM (wD S d) 1) = pgF (dvS S d) := by
  unfold dvS
  rw [show spM d (sM S) = 1 from if_pos h]
  rfl
theorem dv_0 (S : TS) {d : Nat} (h : ¬ 1 < pcn d) : pgF (wM (wD S d) (sM (wD S d))) = pgF (dvS S d) := by
  unfold dvS
  rw [show spM d (sM S) = sM S from if_neg h]
  rfl
theorem sk_1 {S : TS} {i : Nat} (h : 1 < pcn (dIn (sD S) i)) : pgF (wM (wD S (dIn (sD S) i)) 1) = pgF (skS S i) := dv_1 S h
theorem sk_0 {S : TS} {i : Nat} (h : ¬ 1 < pcn (dIn (sD S) i)) : pgF (wM (wD S (dIn (sD S) i)) (sM (wD S (dIn (sD S) i)))) = pgF (skS S i) := dv_0 S h
theorem OkS.dv {B : Nat} {S : TS} (h : OkS B S) {d : Nat} (hd : d < 16) : OkS B (dvS S d) := ⟨hd, spM_ok h.2.1, fun z => spM_pc z, h.2.2.2⟩
/-- what is lost among the next n, as the reference counts it -/
def clR (nw nf : Nat) (fl x : Nat → Int32) (S : TS) (n : Nat) : Int32 := (sI (tkN nw nf fl x S n) + sA (tkN nw nf fl x S n)) - (sI S + sA S)
def pnK (nw : Nat) (S : TS) (K : RJ) : RJ := (wnF nw (x3F 0 0 0) S, amP (sD S) (aS nw (x3F 0 0 0) S) (sF S) 4, amP (sD S) (aiF (sF S) (eS nw (x3F 0 0 0) S) (g_tv 1 (lpN (sD S)))) (sF S) 4, cS nw (x3F 0 0 0) S, nS nw (x3F 0 0 0) S, hS nw (x3F 0 0 0) S, rM K)
theorem pg_T7 (S : TS) (v : Int32) : upd (pgF S) 7 v = pgF (stS S 0 v) := by
  funext j
  match j with
  | 0 | 1 | 2 | 3 | 4 | 5 | 6 | 7 | 8 | 9 | 10 => rfl
  | k + 11 => exact upd_far (by omega)
theorem pg_T8 (S : TS) (v : Int32) : upd (pgF S) 8 v = pgF (stS S 1 v) := by
  funext j
  match j with
  | 0 | 1 | 2 | 3 | 4 | 5 | 6 | 7 | 8 | 9 | 10 => rfl
  | k + 11 => exact upd_far (by omega)
theorem pg_T9 (S : TS) (v : Int32) : upd (pgF S) 9 v = pgF (stS S 2 v) := by
  funext j
  match j with
  | 0 | 1 | 2 | 3 | 4 | 5 | 6 | 7 | 8 | 9 | 10 => rfl
  | k + 11 => exact upd_far (by omega)
theorem pg_T10 (S : TS) (v : Int32) : upd (pgF S) 10 v = pgF (stS S 3 v) := by
  funext j
  match j with
  | 0 | 1 | 2 | 3 | 4 | 5 | 6 | 7 | 8 | 9 | 10 => rfl
  | k + 11 => exact upd_far (by omega)
theorem dJxf58ca_isNaN_12338_0 : decode cJxf58ca_isNaN_12338 0 = .ok (.fload_n 0, 1) := by decide +kernel
theorem dJxf58ca_isNaN_12338_1 : decode cJxf58ca_isNaN_12338 1 = .ok (.fload_n 0, 1) := by decide +kernel
theorem dJxf58ca_isNaN_12338_2 : decode cJxf58ca_isNaN_12338 2 = .ok (.fcmp .l, 1) := by decide +kernel
theorem dJxf58ca_isNaN_12338_3 : decode cJxf58ca_isNaN_12338 3 = .ok (.ifCond .eq 7, 3) := by decide +kernel
theorem dJxf58ca_isNaN_12338_10 : decode cJxf58ca_isNaN_12338 10 = .ok (.iconst 0, 1) := by decide +kernel
theorem dJxf58ca_isNaN_12338_11 : decode cJxf58ca_isNaN_12338 11 = .ok (.ireturn, 1) := by decide +kernel
set_option maxRecDepth 100000 in
set_option maxHeartbeats 4000000 in
theorem m_Jxf58ca_isNaN_12338 {l : Launch} {D : va_G} {E : Nat → ClassId} {T : Nat → Nat} (x : UInt32) (hx9 : FP.Core.val32 x ≠ .nan) : g_M l D E T yJxf58ca_isNaN_12338 wsJxf58ca_isNaN_12338 0 0 [.float x] [] [] (some (.int (b2i false))) := by
  refine g_M.ofF (cc := cJxf58ca_isNaN_12338) (nL := 1) (ret := (some .boolean)) (own := RJxf58ca) (lv := [(0, .float x)]) (by decide +kernel) rfl rfl (Nat.le_of_ble_eq_true rfl) rfl ?_
  intro p e R s m args below meth c A Q H locs ls hR hQ hc hr hw hl
  have hx := hc.1
  have hb := hc.2.1
  have hts := hc.2.2.2.1
  have hown := hc.2.2.2.2.1
  refine lv_fload_n hx hb dJxf58ca_isNaN_12338_0 rfl (lv_at hl 0 rfl) ?_
  refine lv_fload_n hx hb dJxf58ca_isNaN_12338_1 rfl (lv_at hl 0 rfl) ?_
  refine lv_fcmp hx hb dJxf58ca_isNaN_12338_2 ?_
  refine lv_if_eq (tgt := 10) hx hb dJxf58ca_isNaN_12338_3 (by decide) (fun c_3 => ?_) (fun c_3 => absurd (by rw [show FP.fcmp x x = some .eq from FP.Core.fcmp_self hx9]; rfl) c_3)
  refine lv_iconst (v := 0) hx hb dJxf58ca_isNaN_12338_10 (by decide) ?_
  exact g_zret hQ hc hw hr rfl (by first | rfl | (split <;> rfl) | exact g_nb _) rfl dJxf58ca_isNaN_12338_11

theorem dJxf58ca_floatToIntBits_5c35a_0 : decode cJxf58ca_floatToIntBits_5c35a 0 = .ok (.fload_n 0, 1) := by decide +kernel
theorem dJxf58ca_floatToIntBits_5c35a_1 : decode cJxf58ca_floatToIntBits_5c35a 1 = .ok (.invokestatic 59, 3) := by decide +kernel
theorem dJxf58ca_floatToIntBits_5c35a_4 : decode cJxf58ca_floatToIntBits_5c35a 4 = .ok (.ifCond .ne 8, 3) := by decide +kernel
theorem dJxf58ca_floatToIntBits_5c35a_7 : decode cJxf58ca_floatToIntBits_5c35a 7 = .ok (.fload_n 0, 1) := by decide +kernel
theorem dJxf58ca_floatToIntBits_5c35a_8 : decode cJxf58ca_floatToIntBits_5c35a 8 = .ok (.invokestatic 74, 3) := by decide +kernel
theorem dJxf58ca_floatToIntBits_5c35a_11 : decode cJxf58ca_floatToIntBits_5c35a 11 = .ok (.ireturn, 1) := by decide +kernel
set_option maxRecDepth 20000 in
theorem ggJxf58ca_floatToIntBits_5c35a_Jxf58ca_isNaN_12338 : GoodIn wsJxf58ca_floatToIntBits_5c35a wsJxf58ca_isNaN_12338 := goodIn_r _ [9] rfl (by decide +kernel)
set_option maxRecDepth 20000 in
theorem gJxf58ca_floatToIntBits_5c35a_Jxf58ca_isNaN_12338 : GoodIn wsJxf58ca_floatToIntBits_5c35a (va_wsS RJxf58ca 59 yJxf58ca_isNaN_12338 wsJxf58ca_isNaN_12338) := goodIn_app (goodIn_of _ (by decide +kernel)) ggJxf58ca_floatToIntBits_5c35a_Jxf58ca_isNaN_12338
set_option maxRecDepth 100000 in
set_option maxHeartbeats 4000000 in
theorem m_Jxf58ca_floatToIntBits_5c35a {l : Launch} {D : va_G} {E : Nat → ClassId} {T : Nat → Nat} (x : UInt32) (hv : g_mg 255 x) : g_M l D E T yJxf58ca_floatToIntBits_5c35a wsJxf58ca_floatToIntBits_5c35a 1 23 [.float x] [] [] (some (.int (bitI x))) := by
  refine g_M.ofF (cc := cJxf58ca_floatToIntBits_5c35a) (nL := 1) (ret := (some .int)) (own := RJxf58ca) (lv := [(0, .float x)]) (by decide +kernel) rfl rfl (Nat.le_of_ble_eq_true rfl) rfl ?_
  intro p e R s m args below meth c A Q H locs ls hR hQ hc hr hw hl
  have hx := hc.1
  have hb := hc.2.1
  have hts := hc.2.2.2.1
  have hown := hc.2.2.2.2.1
  refine lv_fload_n hx hb dJxf58ca_floatToIntBits_5c35a_0 rfl (lv_at hl 0 rfl) ?_
  refine g_cS (As := [.float x]) (n := 1) (rest := []) (wc := []) (w1 := []) (bytes := cJxf58ca_isNaN_12338) (maxL := 1) (ret := (some .boolean)) hc hw hl.1 (m_Jxf58ca_isNaN_12338 (l := l) (D := D) (E := E) (T := T) x (mg_nn hv (by decide))) gJxf58ca_floatToIntBits_5c35a_Jxf58ca_isNaN_12338 rfl (by decide +kernel) (by rw [hR]; exact ⟨Nat.le_of_ble_eq_true rfl, Nat.le_of_ble_eq_true rfl⟩) [] (by decide) rfl [] rfl rfl rfl rfl (Nat.le_of_ble_eq_true rfl) dJxf58ca_floatToIntBits_5c35a_1 ⟨Nat.zero_le _, Nat.zero_le _⟩ (fun H locs hw => ?_)
  have hw : g_W D A s [] H locs := hw
  refine lv_if_ne (tgt := 12) hx hb dJxf58ca_floatToIntBits_5c35a_4 (by decide) (fun c_4 => absurd rfl c_4) (fun c_4 => ?_)
  refine lv_fload_n hx hb dJxf58ca_floatToIntBits_5c35a_7 rfl (lv_at hl 0 rfl) ?_
  refine vn_f2i hx hb (hc.2.2.1.trans hl.1.symm) hown (hts _ (List.mem_of_getElem? (i := 1) rfl)) (hts _ (List.mem_of_getElem? (i := 2) rfl)) (hts _ (List.mem_of_getElem? (i := 3) rfl)) (hts _ (List.mem_of_getElem? (i := 4) rfl)) (by rw [hR]; exact Nat.le_of_ble_eq_true rfl) (by rw [hR]; exact Nat.le_of_ble_eq_true rfl) dJxf58ca_floatToIntBits_5c35a_8 ?_
  exact g_iret hQ hc hw hr (by exact congrArg (fun z => some (Value.int z)) (bit_32 x)) rfl dJxf58ca_floatToIntBits_5c35a_11

theorem dX6_isFigure_0 : decode cX6_isFigure 0 = .ok (.aload_n 0, 1) := by decide +kernel
theorem dX6_isFigure_1 : decode cX6_isFigure 1 = .ok (.getfield 7, 3) := by decide +kernel
theorem dX6_isFigure_4 : decode cX6_isFigure 4 = .ok (.iload_n 1, 1) := by decide +kernel
theorem dX6_isFigure_5 : decode cX6_isFigure 5 = .ok (.iaload, 1) := by decide +kernel
theorem dX6_isFigure_6 : decode cX6_isFigure 6 = .ok (.bipush 48, 2) := by decide +kernel
theorem dX6_isFigure_8 : decode cX6_isFigure 8 = .ok (.isub, 1) := by decide +kernel
theorem dX6_isFigure_9 : decode cX6_isFigure 9 = .ok (.i2l, 1) := by decide +kernel
theorem dX6_isFigure_10 : decode cX6_isFigure 10 = .ok (.iload_n 2, 1) := by decide +kernel
theorem dX6_isFigure_11 : decode cX6_isFigure 11 = .ok (.i2l, 1) := by decide +kernel
theorem dX6_isFigure_12 : decode cX6_isFigure 12 = .ok (.ldc2_w 103, 3) := by decide +kernel
theorem dX6_isFigure_15 : decode cX6_isFigure 15 = .ok (.invokestatic 94, 3) := by decide +kernel
theorem dX6_isFigure_18 : decode cX6_isFigure 18 = .ok (.ireturn, 1) := by decide +kernel
set_option maxRecDepth 20000 in
theorem ggX6_isFigure_X6_in : GoodIn wsX6_isFigure wsX6_in := goodIn_r _ [6] rfl (by decide +kernel)
set_option maxRecDepth 20000 in
theorem gX6_isFigure_X6_in : GoodIn wsX6_isFigure (va_wsS RX6 94 yX6_in wsX6_in) := goodIn_app (goodIn_of _ (by decide +kernel)) ggX6_isFigure_X6_in
theorem inX6_isFigure_X6 : ∀ w ∈ u_ws RX6 TX6 36, w ∈ wsX6_isFigure := fun w h => List.mem_cons_of_mem _ (List.mem_append_right _ h)
set_option maxRecDepth 100000 in
set_option maxHeartbeats 4000000 in
theorem m_X6_isFigure {l : Launch} {D : va_G} {E : Nat → ClassId} {T : Nat → Nat} (o : Nat) (tx : Nat) (k : Nat) (a : Nat) (u0 : Value) (u2 : Value) (u3 : Value) (u4 : Value) (u5 : Value) (u6 : Value) (u7 : Value) (u8 : Value) (u9 : Value) (u10 : Value) (u11 : Value) (u12 : Value) (u13 : Value) (u14 : Value) (u15 : Value) (u16 : Value) (u17 : Value) (u18 : Value) (u19 : Value) (u20 : Value) (u21 : Value) (u22 : Value) (u23 : Value) (u24 : Value) (u25 : Value) (u26 : Value) (u27 : Value) (u28 : Value) (u29 : Value) (u30 : Value) (u31 : Value) (u32 : Value) (u33 : Value) (u34 : Value) (u35 : Value) (tt : Nat → Nat) (hk : k < 120) (ha : a < 2) (ht9 : ∀ j, tt j < 256) : g_M l D E T yX6_isFigure wsX6_isFigure 1 25 [.ref o, .int (nI k), .int (nI a)] [(o, .inr (6, [u0, .ref tx, u2, u3, u4, u5, u6, u7, u8, u9, u10, u11, u12, u13, u14, u15, u16, u17, u18, u19, u20, u21, u22, u23, u24, u25, u26, u27, u28, u29, u30, u31, u32, u33, u34, u35])), (tx, .inl (E 0, 120, .inl (txF tt)))] [(o, .inr (6, [u0, .ref tx, u2, u3, u4, u5, u6, u7, u8, u9, u10, u11, u12, u13, u14, u15, u16, u17, u18, u19, u20, u21, u22, u23, u24, u25, u26, u27, u28, u29, u30, u31, u32, u33, u34, u35])), (tx, .inl (E 0, 120, .inl (txF tt)))] (some (.int (b2i (decide (48 + a ≤ tt k ∧ tt k ≤ 57))))) := by
  refine g_M.of (cc := cX6_isFigure) (nL := 3) (ret := (some .boolean)) (own := RX6) (lv := [(0, .ref o), (1, .int (nI k)), (2, .int (nI a))]) (by decide) rfl rfl (Nat.le_of_ble_eq_true rfl) rfl ?_
  intro p e R s m args below meth c A Q H locs ls hR hQ hc hr hw hl
  have hx := hc.1
  have hb := hc.2.1
  have hts := hc.2.2.2.1
  have hown := hc.2.2.2.2.1
  refine lv_aload_n hx hb dX6_isFigure_0 rfl (lv_at hl 0 rfl) ?_
  refine g_get (TT := TX6) hc hw inX6_isFigure_X6 0 1 1 rfl rfl (by decide) rfl rfl dX6_isFigure_1 ?_
  refine lv_iload_n hx hb dX6_isFigure_4 rfl (lv_at hl 1 rfl) ?_
  refine g_ild hc hw 1 k rfl rfl (by omega) (by decide) dX6_isFigure_5 ?_
  refine lv_bipush (v := 48) hx hb dX6_isFigure_6 (by decide) ?_
  refine lv_isub hx hb dX6_isFigure_8 ?_
  refine lv_i2l hx hb dX6_isFigure_9 rfl ?_
  refine lv_iload_n hx hb dX6_isFigure_10 rfl (lv_at hl 2 rfl) ?_
  refine lv_i2l hx hb dX6_isFigure_11 rfl ?_
  refine lv_ldc2 (v := 9) hx hb hown (hts _ (List.mem_of_getElem? (i := 2) rfl)) dX6_isFigure_12 ?_
  refine g_cS (As := [.long (((nI (tt k)) - 48).toInt64), .long ((nI a).toInt64), .long 9]) (n := 3) (rest := []) (wc := []) (w1 := []) (bytes := cX6_in) (maxL := 6) (ret := (some .boolean)) hc hw hl.1 (m_X6_in (l := l) (D := D) (E := E) (T := T) (((nI (tt k)) - 48).toInt64) ((nI a).toInt64) 9) gX6_isFigure_X6_in rfl (by decide +kernel) (by rw [hR]; exact ⟨Nat.le_of_ble_eq_true rfl, Nat.le_of_ble_eq_true rfl⟩) [] (by decide) rfl [] rfl rfl rfl rfl (Nat.le_of_ble_eq_true rfl) dX6_isFigure_15 ⟨Nat.zero_le _, Nat.zero_le _⟩ (fun H locs hw => ?_)
  have hw : g_W D A s [(o, .inr (6, [u0, .ref tx, u2, u3, u4, u5, u6, u7, u8, u9, u10, u11, u12, u13, u14, u15, u16, u17, u18, u19, u20, u21, u22, u23, u24, u25, u26, u27, u28, u29, u30, u31, u32, u33, u34, u35])), (tx, .inl (E 0, 120, .inl (txF tt)))] H locs := hw
  exact g_zret hQ hc hw hr (by exact congrArg (fun z => some (Value.int (b2i z))) (fig_eq (tt k) (ht9 k) a ha).symm) (by first | rfl | (split <;> rfl) | exact g_nb _) rfl dX6_isFigure_18

theorem dX6_isHead_0 : decode cX6_isHead 0 = .ok (.iload_n 1, 1) := by decide +kernel
theorem dX6_isHead_1 : decode cX6_isHead 1 = .ok (.lookupswitch 59 #[(0, 35), (1, 52), (5, 52)], 35) := by decide +kernel
theorem dX6_isHead_36 : decode cX6_isHead 36 = .ok (.aload_n 0, 1) := by decide +kernel
theorem dX6_isHead_37 : decode cX6_isHead 37 = .ok (.getfield 7, 3) := by decide +kernel
theorem dX6_isHead_40 : decode cX6_isHead 40 = .ok (.iconst 0, 1) := by decide +kernel
theorem dX6_isHead_41 : decode cX6_isHead 41 = .ok (.iaload, 1) := by decide +kernel
theorem dX6_isHead_42 : decode cX6_isHead 42 = .ok (.bipush 75, 2) := by decide +kernel
theorem dX6_isHead_44 : decode cX6_isHead 44 = .ok (.if_icmp .ne 7, 3) := by decide +kernel
theorem dX6_isHead_47 : decode cX6_isHead 47 = .ok (.iconst 1, 1) := by decide +kernel
theorem dX6_isHead_48 : decode cX6_isHead 48 = .ok (.goto 4, 3) := by decide +kernel
theorem dX6_isHead_51 : decode cX6_isHead 51 = .ok (.iconst 0, 1) := by decide +kernel
theorem dX6_isHead_52 : decode cX6_isHead 52 = .ok (.ireturn, 1) := by decide +kernel
theorem dX6_isHead_53 : decode cX6_isHead 53 = .ok (.aload_n 0, 1) := by decide +kernel
theorem dX6_isHead_54 : decode cX6_isHead 54 = .ok (.iload_n 1, 1) := by decide +kernel
theorem dX6_isHead_55 : decode cX6_isHead 55 = .ok (.iconst 1, 1) := by decide +kernel
theorem dX6_isHead_56 : decode cX6_isHead 56 = .ok (.invokevirtual 105, 3) := by decide +kernel
theorem dX6_isHead_59 : decode cX6_isHead 59 = .ok (.ireturn, 1) := by decide +kernel
theorem dX6_isHead_60 : decode cX6_isHead 60 = .ok (.aload_n 0, 1) := by decide +kernel
theorem dX6_isHead_61 : decode cX6_isHead 61 = .ok (.iload_n 1, 1) := by decide +kernel
theorem dX6_isHead_62 : decode cX6_isHead 62 = .ok (.iconst 0, 1) := by decide +kernel
theorem dX6_isHead_63 : decode cX6_isHead 63 = .ok (.invokevirtual 105, 3) := by decide +kernel
theorem dX6_isHead_66 : decode cX6_isHead 66 = .ok (.ireturn, 1) := by decide +kernel
set_option maxRecDepth 20000 in
theorem ggX6_isHead_X6_isFigure : GoodIn wsX6_isHead wsX6_isFigure := goodIn_r _ [6, 1, 7, 8, 9, 5, 10, 11, 12, 13, 14, 15, 16, 17, 18, 19, 20, 21, 22, 23, 24, 25, 26, 27, 28, 29, 30, 31, 32, 33, 34, 35, 36, 37, 38, 39, 40, 41, 42, 43, 44, 45, 46] rfl (by decide +kernel)
set_option maxRecDepth 20000 in
theorem gX6_isHead_X6_isFigure : GoodIn wsX6_isHead (wsV RX6 105 RX6 yX6_isFigure wsX6_isFigure) := goodIn_app (goodIn_of _ (by decide +kernel)) ggX6_isHead_X6_isFigure
theorem inX6_isHead_X6 : ∀ w ∈ u_ws RX6 TX6 36, w ∈ wsX6_isHead := fun w h => List.mem_cons_of_mem _ (List.mem_append_right _ h)
set_option maxRecDepth 100000 in
set_option maxHeartbeats 4000000 in
theorem m_X6_isHead {l : Launch} {D : va_G} {E : Nat → ClassId} {T : Nat → Nat} (o : Nat) (tx : Nat) (k : Nat) (u0 : Value) (u2 : Value) (u3 : Value) (u4 : Value) (u5 : Value) (u6 : Value) (u7 : Value) (u8 : Value) (u9 : Value) (u10 : Value) (u11 : Value) (u12 : Value) (u13 : Value) (u14 : Value) (u15 : Value) (u16 : Value) (u17 : Value) (u18 : Value) (u19 : Value) (u20 : Value) (u21 : Value) (u22 : Value) (u23 : Value) (u24 : Value) (u25 : Value) (u26 : Value) (u27 : Value) (u28 : Value) (u29 : Value) (u30 : Value) (u31 : Value) (u32 : Value) (u33 : Value) (u34 : Value) (u35 : Value) (tt : Nat → Nat) (hk : k < 6) (ht9 : ∀ j, tt j < 256) : g_M l D E T yX6_isHead wsX6_isHead 2 47 [.ref o, .int (nI k)] [(o, .inr (6, [u0, .ref tx, u2, u3, u4, u5, u6, u7, u8, u9, u10, u11, u12, u13, u14, u15, u16, u17, u18, u19, u20, u21, u22, u23, u24, u25, u26, u27, u28, u29, u30, u31, u32, u33, u34, u35])), (tx, .inl (E 0, 120, .inl (txF tt)))] [(o, .inr (6, [u0, .ref tx, u2, u3, u4, u5, u6, u7, u8, u9, u10, u11, u12, u13, u14, u15, u16, u17, u18, u19, u20, u21, u22, u23, u24, u25, u26, u27, u28, u29, u30, u31, u32, u33, u34, u35])), (tx, .inl (E 0, 120, .inl (txF tt)))] (some (.int (b2i (decide (fiP k (tt k)))))) := by
  refine g_M.of (cc := cX6_isHead) (nL := 2) (ret := (some .boolean)) (own := RX6) (lv := [(0, .ref o), (1, .int (nI k))]) (by decide) rfl rfl (Nat.le_of_ble_eq_true rfl) rfl ?_
  intro p e R s m args below meth c A Q H locs ls hR hQ hc hr hw hl
  have hx := hc.1
  have hb := hc.2.1
  have hts := hc.2.2.2.1
  have hown := hc.2.2.2.2.1
  refine lv_iload_n hx hb dX6_isHead_0 rfl (lv_at hl 1 rfl) ?_
  by_cases y_0 : (nI k) = 0
  · skip
    refine lv_lookup (off := 35) (tgt := 36) hx hb dX6_isHead_1 (by decide) (by rw [y_0]; decide) (by decide) ?_
    have m_0 : k = 0 := nf_eqT rfl rfl (by omega) (by decide) y_0
    have hti := ht9 0
    refine lv_aload_n hx hb dX6_isHead_36 rfl (lv_at hl 0 rfl) ?_
    refine g_get (TT := TX6) hc hw inX6_isHead_X6 0 1 1 rfl rfl (by decide) rfl rfl dX6_isHead_37 ?_
    refine lv_iconst (v := 0) hx hb dX6_isHead_40 (by decide) ?_
    refine g_ild hc hw 1 0 rfl rfl (by omega) (by decide) dX6_isHead_41 ?_
    refine lv_bipush (v := 75) hx hb dX6_isHead_42 (by decide) ?_
    refine lv_icmp_ne (tgt := 51) hx hb dX6_isHead_44 (by decide) (fun c_44 => ?_) (fun c_44 => ?_)
    · skip
      have n_44 : ¬ (tt 0) = 75 := nf_neT rfl rfl (by omega) (by omega) c_44
      refine lv_iconst (v := 0) hx hb dX6_isHead_51 (by decide) ?_
      have hti := ht9 k
      exact g_zret hQ hc hw hr (by subst m_0; exact congrArg (fun z => some (Value.int z)) (b2i_0 (by show ¬ fiP 0 (tt 0); unfold fiP; omega))) (by first | rfl | (split <;> rfl) | exact g_nb _) rfl dX6_isHead_52
    · skip
      have n_44 : (tt 0) = 75 := nf_neF rfl rfl (by omega) (by omega) c_44
      refine lv_iconst (v := 1) hx hb dX6_isHead_47 (by decide) ?_
      refine lv_goto (tgt := 52) hx hb dX6_isHead_48 (by decide) ?_
      have hti := ht9 k
      exact g_zret hQ hc hw hr (by subst m_0; exact congrArg (fun z => some (Value.int z)) (b2i_1 (by show  fiP 0 (tt 0); unfold fiP; omega))) (by first | rfl | (split <;> rfl) | exact g_nb _) rfl dX6_isHead_52
  have m_0 : ¬ k = 0 := nf_eqF rfl rfl (by omega) (by decide) y_0
  by_cases y_1 : (nI k) = 1
  · skip
    refine lv_lookup (off := 52) (tgt := 53) hx hb dX6_isHead_1 (by decide) (by rw [y_1]; decide) (by decide) ?_
    have m_1 : k = 1 := nf_eqT rfl rfl (by omega) (by decide) y_1
    refine lv_aload_n hx hb dX6_isHead_53 rfl (lv_at hl 0 rfl) ?_
    refine lv_iload_n hx hb dX6_isHead_54 rfl (lv_at hl 1 rfl) ?_
    refine lv_iconst (v := 1) hx hb dX6_isHead_55 (by decide) ?_
    refine g_cV (As := [.int (nI k), .int 1]) (n := 2) (rest := []) (wc := [(o, .inr (6, [u0, .ref tx, u2, u3, u4, u5, u6, u7, u8, u9, u10, u11, u12, u13, u14, u15, u16, u17, u18, u19, u20, u21, u22, u23, u24, u25, u26, u27, u28, u29, u30, u31, u32, u33, u34, u35])), (tx, .inl (E 0, 120, .inl (txF tt)))]) (w1 := [(o, .inr (6, [u0, .ref tx, u2, u3, u4, u5, u6, u7, u8, u9, u10, u11, u12, u13, u14, u15, u16, u17, u18, u19, u20, u21, u22, u23, u24, u25, u26, u27, u28, u29, u30, u31, u32, u33, u34, u35])), (tx, .inl (E 0, 120, .inl (txF tt)))]) (bytes := cX6_isFigure) (maxL := 3) (ret := (some .boolean)) hc hw hl.1 (m_X6_isFigure (l := l) (D := D) (E := E) (T := T) o tx k 1 u0 u2 u3 u4 u5 u6 u7 u8 u9 u10 u11 u12 u13 u14 u15 u16 u17 u18 u19 u20 u21 u22 u23 u24 u25 u26 u27 u28 u29 u30 u31 u32 u33 u34 u35 tt (by omega) (by first | assumption | omega | decide) (by first | assumption | omega | decide)) gX6_isHead_X6_isFigure rfl (by decide +kernel) (by rw [hR]; exact ⟨Nat.le_of_ble_eq_true rfl, Nat.le_of_ble_eq_true rfl⟩) [0, 1] 0 6 rfl rfl (by decide) rfl [o, tx] rfl rfl rfl rfl (Nat.le_of_ble_eq_true rfl) dX6_isHead_56 ⟨Nat.zero_le _, Nat.zero_le _⟩ (fun H locs hw => ?_)
    have hw : g_W D A s [(o, .inr (6, [u0, .ref tx, u2, u3, u4, u5, u6, u7, u8, u9, u10, u11, u12, u13, u14, u15, u16, u17, u18, u19, u20, u21, u22, u23, u24, u25, u26, u27, u28, u29, u30, u31, u32, u33, u34, u35])), (tx, .inl (E 0, 120, .inl (txF tt)))] H locs := hw
    have hti := ht9 k
    exact g_zret hQ hc hw hr (by exact congrArg (fun z => some (Value.int (b2i z))) (decide_eq_decide.mpr (by unfold fiP; omega))) (by first | rfl | (split <;> rfl) | exact g_nb _) rfl dX6_isHead_59
  have m_1 : ¬ k = 1 := nf_eqF rfl rfl (by omega) (by decide) y_1
  by_cases y_5 : (nI k) = 5
  · skip
    refine lv_lookup (off := 52) (tgt := 53) hx hb dX6_isHead_1 (by decide) (by rw [y_5]; decide) (by decide) ?_
    have m_5 : k = 5 := nf_eqT rfl rfl (by omega) (by decide) y_5
    refine lv_aload_n hx hb dX6_isHead_53 rfl (lv_at hl 0 rfl) ?_
    refine lv_iload_n hx hb dX6_isHead_54 rfl (lv_at hl 1 rfl) ?_
    refine lv_iconst (v := 1) hx hb dX6_isHead_55 (by decide) ?_
    refine g_cV (As := [.int (nI k), .int 1]) (n := 2) (rest := []) (wc := [(o, .inr (6, [u0, .ref tx, u2, u3, u4, u5, u6, u7, u8, u9, u10, u11, u12, u13, u14, u15, u16, u17, u18, u19, u20, u21, u22, u23, u24, u25, u26, u27, u28, u29, u30, u31, u32, u33, u34, u35])), (tx, .inl (E 0, 120, .inl (txF tt)))]) (w1 := [(o, .inr (6, [u0, .ref tx, u2, u3, u4, u5, u6, u7, u8, u9, u10, u11, u12, u13, u14, u15, u16, u17, u18, u19, u20, u21, u22, u23, u24, u25, u26, u27, u28, u29, u30, u31, u32, u33, u34, u35])), (tx, .inl (E 0, 120, .inl (txF tt)))]) (bytes := cX6_isFigure) (maxL := 3) (ret := (some .boolean)) hc hw hl.1 (m_X6_isFigure (l := l) (D := D) (E := E) (T := T) o tx k 1 u0 u2 u3 u4 u5 u6 u7 u8 u9 u10 u11 u12 u13 u14 u15 u16 u17 u18 u19 u20 u21 u22 u23 u24 u25 u26 u27 u28 u29 u30 u31 u32 u33 u34 u35 tt (by omega) (by first | assumption | omega | decide) (by first | assumption | omega | decide)) gX6_isHead_X6_isFigure rfl (by decide +kernel) (by rw [hR]; exact ⟨Nat.le_of_ble_eq_true rfl, Nat.le_of_ble_eq_true rfl⟩) [0, 1] 0 6 rfl rfl (by decide) rfl [o, tx] rfl rfl rfl rfl (Nat.le_of_ble_eq_true rfl) dX6_isHead_56 ⟨Nat.zero_le _, Nat.zero_le _⟩ (fun H locs hw => ?_)
    have hw : g_W D A s [(o, .inr (6, [u0, .ref tx, u2, u3, u4, u5, u6, u7, u8, u9, u10, u11, u12, u13, u14, u15, u16, u17, u18, u19, u20, u21, u22, u23, u24, u25, u26, u27, u28, u29, u30, u31, u32, u33, u34, u35])), (tx, .inl (E 0, 120, .inl (txF tt)))] H locs := hw
    have hti := ht9 k
    exact g_zret hQ hc hw hr (by exact congrArg (fun z => some (Value.int (b2i z))) (decide_eq_decide.mpr (by unfold fiP; omega))) (by first | rfl | (split <;> rfl) | exact g_nb _) rfl dX6_isHead_59
  have m_5 : ¬ k = 5 := nf_eqF rfl rfl (by omega) (by decide) y_5
  refine lv_lookup (off := 59) (tgt := 60) hx hb dX6_isHead_1 (by decide) ((lv_osw y_0 rfl).trans ((lv_osw y_1 rfl).trans ((lv_osw y_5 rfl).trans rfl))) (by decide) ?_
  refine lv_aload_n hx hb dX6_isHead_60 rfl (lv_at hl 0 rfl) ?_
  refine lv_iload_n hx hb dX6_isHead_61 rfl (lv_at hl 1 rfl) ?_
  refine lv_iconst (v := 0) hx hb dX6_isHead_62 (by decide) ?_
  refine g_cV (As := [.int (nI k), .int 0]) (n := 2) (rest := []) (wc := [(o, .inr (6, [u0, .ref tx, u2, u3, u4, u5, u6, u7, u8, u9, u10, u11, u12, u13, u14, u15, u16, u17, u18, u19, u20, u21, u22, u23, u24, u25, u26, u27, u28, u29, u30, u31, u32, u33, u34, u35])), (tx, .inl (E 0, 120, .inl (txF tt)))]) (w1 := [(o, .inr (6, [u0, .ref tx, u2, u3, u4, u5, u6, u7, u8, u9, u10, u11, u12, u13, u14, u15, u16, u17, u18, u19, u20, u21, u22, u23, u24, u25, u26, u27, u28, u29, u30, u31, u32, u33, u34, u35])), (tx, .inl (E 0, 120, .inl (txF tt)))]) (bytes := cX6_isFigure) (maxL := 3) (ret := (some .boolean)) hc hw hl.1 (m_X6_isFigure (l := l) (D := D) (E := E) (T := T) o tx k 0 u0 u2 u3 u4 u5 u6 u7 u8 u9 u10 u11 u12 u13 u14 u15 u16 u17 u18 u19 u20 u21 u22 u23 u24 u25 u26 u27 u28 u29 u30 u31 u32 u33 u34 u35 tt (by omega) (by first | assumption | omega | decide) (by first | assumption | omega | decide)) gX6_isHead_X6_isFigure rfl (by decide +kernel) (by rw [hR]; exact ⟨Nat.le_of_ble_eq_true rfl, Nat.le_of_ble_eq_true rfl⟩) [0, 1] 0 6 rfl rfl (by decide) rfl [o, tx] rfl rfl rfl rfl (Nat.le_of_ble_eq_true rfl) dX6_isHead_63 ⟨Nat.zero_le _, Nat.zero_le _⟩ (fun H locs hw => ?_)
  have hw : g_W D A s [(o, .inr (6, [u0, .ref tx, u2, u3, u4, u5, u6, u7, u8, u9, u10, u11, u12, u13, u14, u15, u16, u17, u18, u19, u20, u21, u22, u23, u24, u25, u26, u27, u28, u29, u30, u31, u32, u33, u34, u35])), (tx, .inl (E 0, 120, .inl (txF tt)))] H locs := hw
  have hti := ht9 k
  exact g_zret hQ hc hw hr (by exact congrArg (fun z => some (Value.int (b2i z))) (decide_eq_decide.mpr (by unfold fiP; omega))) (by first | rfl | (split <;> rfl) | exact g_nb _) rfl dX6_isHead_66

theorem dX6_isPart_0 : decode cX6_isPart 0 = .ok (.iload_n 2, 1) := by decide +kernel
theorem dX6_isPart_1 : decode cX6_isPart 1 = .ok (.ifCond .ne 49, 3) := by decide +kernel
theorem dX6_isPart_4 : decode cX6_isPart 4 = .ok (.aload_n 0, 1) := by decide +kernel
theorem dX6_isPart_5 : decode cX6_isPart 5 = .ok (.getfield 7, 3) := by decide +kernel
theorem dX6_isPart_8 : decode cX6_isPart 8 = .ok (.iload_n 1, 1) := by decide +kernel
theorem dX6_isPart_9 : decode cX6_isPart 9 = .ok (.iaload, 1) := by decide +kernel
theorem dX6_isPart_10 : decode cX6_isPart 10 = .ok (.bipush 119, 2) := by decide +kernel
theorem dX6_isPart_12 : decode cX6_isPart 12 = .ok (.if_icmp .ne 12, 3) := by decide +kernel
theorem dX6_isPart_15 : decode cX6_isPart 15 = .ok (.aload_n 0, 1) := by decide +kernel
theorem dX6_isPart_16 : decode cX6_isPart 16 = .ok (.getfield 109, 3) := by decide +kernel
theorem dX6_isPart_19 : decode cX6_isPart 19 = .ok (.bipush 6, 2) := by decide +kernel
theorem dX6_isPart_21 : decode cX6_isPart 21 = .ok (.if_icmp .lt 23, 3) := by decide +kernel
theorem dX6_isPart_24 : decode cX6_isPart 24 = .ok (.aload_n 0, 1) := by decide +kernel
theorem dX6_isPart_25 : decode cX6_isPart 25 = .ok (.getfield 7, 3) := by decide +kernel
theorem dX6_isPart_28 : decode cX6_isPart 28 = .ok (.iload_n 1, 1) := by decide +kernel
theorem dX6_isPart_29 : decode cX6_isPart 29 = .ok (.iaload, 1) := by decide +kernel
theorem dX6_isPart_30 : decode cX6_isPart 30 = .ok (.bipush 102, 2) := by decide +kernel
theorem dX6_isPart_32 : decode cX6_isPart 32 = .ok (.if_icmp .ne 16, 3) := by decide +kernel
theorem dX6_isPart_35 : decode cX6_isPart 35 = .ok (.aload_n 0, 1) := by decide +kernel
theorem dX6_isPart_36 : decode cX6_isPart 36 = .ok (.getfield 112, 3) := by decide +kernel
theorem dX6_isPart_39 : decode cX6_isPart 39 = .ok (.bipush 6, 2) := by decide +kernel
theorem dX6_isPart_41 : decode cX6_isPart 41 = .ok (.if_icmp .ge 7, 3) := by decide +kernel
theorem dX6_isPart_44 : decode cX6_isPart 44 = .ok (.iconst 1, 1) := by decide +kernel
theorem dX6_isPart_45 : decode cX6_isPart 45 = .ok (.goto 4, 3) := by decide +kernel
theorem dX6_isPart_48 : decode cX6_isPart 48 = .ok (.iconst 0, 1) := by decide +kernel
theorem dX6_isPart_49 : decode cX6_isPart 49 = .ok (.ireturn, 1) := by decide +kernel
theorem dX6_isPart_50 : decode cX6_isPart 50 = .ok (.iload_n 2, 1) := by decide +kernel
theorem dX6_isPart_51 : decode cX6_isPart 51 = .ok (.iconst 2, 1) := by decide +kernel
theorem dX6_isPart_52 : decode cX6_isPart 52 = .ok (.irem, 1) := by decide +kernel
theorem dX6_isPart_53 : decode cX6_isPart 53 = .ok (.iconst 1, 1) := by decide +kernel
theorem dX6_isPart_54 : decode cX6_isPart 54 = .ok (.if_icmp .ne 33, 3) := by decide +kernel
theorem dX6_isPart_57 : decode cX6_isPart 57 = .ok (.aload_n 0, 1) := by decide +kernel
theorem dX6_isPart_58 : decode cX6_isPart 58 = .ok (.getfield 7, 3) := by decide +kernel
theorem dX6_isPart_61 : decode cX6_isPart 61 = .ok (.iload_n 1, 1) := by decide +kernel
theorem dX6_isPart_62 : decode cX6_isPart 62 = .ok (.iaload, 1) := by decide +kernel
theorem dX6_isPart_63 : decode cX6_isPart 63 = .ok (.bipush 43, 2) := by decide +kernel
theorem dX6_isPart_65 : decode cX6_isPart 65 = .ok (.if_icmp .eq 14, 3) := by decide +kernel
theorem dX6_isPart_68 : decode cX6_isPart 68 = .ok (.aload_n 0, 1) := by decide +kernel
theorem dX6_isPart_69 : decode cX6_isPart 69 = .ok (.getfield 7, 3) := by decide +kernel
theorem dX6_isPart_72 : decode cX6_isPart 72 = .ok (.iload_n 1, 1) := by decide +kernel
theorem dX6_isPart_73 : decode cX6_isPart 73 = .ok (.iaload, 1) := by decide +kernel
theorem dX6_isPart_74 : decode cX6_isPart 74 = .ok (.bipush 45, 2) := by decide +kernel
theorem dX6_isPart_76 : decode cX6_isPart 76 = .ok (.if_icmp .ne 7, 3) := by decide +kernel
theorem dX6_isPart_79 : decode cX6_isPart 79 = .ok (.iconst 1, 1) := by decide +kernel
theorem dX6_isPart_80 : decode cX6_isPart 80 = .ok (.goto 13, 3) := by decide +kernel
theorem dX6_isPart_83 : decode cX6_isPart 83 = .ok (.iconst 0, 1) := by decide +kernel
theorem dX6_isPart_84 : decode cX6_isPart 84 = .ok (.goto 9, 3) := by decide +kernel
theorem dX6_isPart_87 : decode cX6_isPart 87 = .ok (.aload_n 0, 1) := by decide +kernel
theorem dX6_isPart_88 : decode cX6_isPart 88 = .ok (.iload_n 1, 1) := by decide +kernel
theorem dX6_isPart_89 : decode cX6_isPart 89 = .ok (.iconst 0, 1) := by decide +kernel
theorem dX6_isPart_90 : decode cX6_isPart 90 = .ok (.invokevirtual 105, 3) := by decide +kernel
theorem dX6_isPart_93 : decode cX6_isPart 93 = .ok (.ireturn, 1) := by decide +kernel
set_option maxRecDepth 20000 in
theorem ggX6_isPart_X6_isFigure : GoodIn wsX6_isPart wsX6_isFigure := goodIn_r _ [8, 1, 9, 10, 11, 7, 12, 13, 14, 15, 16, 17, 18, 19, 20, 21, 22, 23, 24, 25, 26, 27, 28, 29, 30, 31, 32, 33, 34, 35, 36, 37, 38, 39, 40, 41, 42, 43, 44, 45, 46, 47, 48] rfl (by decide +kernel)
set_option maxRecDepth 20000 in
theorem gX6_isPart_X6_isFigure : GoodIn wsX6_isPart (wsV RX6 105 RX6 yX6_isFigure wsX6_isFigure) := goodIn_app (goodIn_of _ (by decide +kernel)) ggX6_isPart_X6_isFigure
theorem inX6_isPart_X6 : ∀ w ∈ u_ws RX6 TX6 36, w ∈ wsX6_isPart := fun w h => List.mem_cons_of_mem _ (List.mem_append_right _ h)
set_option maxRecDepth 100000 in
set_option maxHeartbeats 4000000 in
theorem m_X6_isPart {l : Launch} {D : va_G} {E : Nat → ClassId} {T : Nat → Nat} (o : Nat) (tx : Nat) (k : Nat) (a : Nat) (rw9 : Nat) (rf9 : Nat) (u0 : Value) (u2 : Value) (u3 : Value) (u4 : Value) (u5 : Value) (u6 : Value) (u9 : Value) (u10 : Value) (u11 : Value) (u12 : Value) (u13 : Value) (u14 : Value) (u15 : Value) (u16 : Value) (u17 : Value) (u18 : Value) (u19 : Value) (u20 : Value) (u21 : Value) (u22 : Value) (u23 : Value) (u24 : Value) (u25 : Value) (u26 : Value) (u27 : Value) (u28 : Value) (u29 : Value) (u30 : Value) (u31 : Value) (u32 : Value) (u33 : Value) (u34 : Value) (u35 : Value) (tt : Nat → Nat) (hk : k < 120) (ha : a < 7) (hrw : rw9 ≤ 6) (hrf : rf9 ≤ 6) (ht9 : ∀ j, tt j < 256) : g_M l D E T yX6_isPart wsX6_isPart 2 47 [.ref o, .int (nI k), .int (nI a)] [(o, .inr (6, [u0, .ref tx, u2, u3, u4, u5, u6, .int (nI rw9), .int (nI rf9), u9, u10, u11, u12, u13, u14, u15, u16, u17, u18, u19, u20, u21, u22, u23, u24, u25, u26, u27, u28, u29, u30, u31, u32, u33, u34, u35])), (tx, .inl (E 0, 120, .inl (txF tt)))] [(o, .inr (6, [u0, .ref tx, u2, u3, u4, u5, u6, .int (nI rw9), .int (nI rf9), u9, u10, u11, u12, u13, u14, u15, u16, u17, u18, u19, u20, u21, u22, u23, u24, u25, u26, u27, u28, u29, u30, u31, u32, u33, u34, u35])), (tx, .inl (E 0, 120, .inl (txF tt)))] (some (.int (b2i (decide (ptP (tt k) a rw9 rf9))))) := by
  have hti := ht9 k
  refine g_M.of (cc := cX6_isPart) (nL := 3) (ret := (some .boolean)) (own := RX6) (lv := [(0, .ref o), (1, .int (nI k)), (2, .int (nI a))]) (by decide) rfl rfl (Nat.le_of_ble_eq_true rfl) rfl ?_
  intro p e R s m args below meth c A Q H locs ls hR hQ hc hr hw hl
  have hx := hc.1
  have hb := hc.2.1
  have hts := hc.2.2.2.1
  have hown := hc.2.2.2.2.1
  refine lv_iload_n hx hb dX6_isPart_0 rfl (lv_at hl 2 rfl) ?_
  refine lv_if_ne (tgt := 50) hx hb dX6_isPart_1 (by decide) (fun c_1 => ?_) (fun c_1 => ?_)
  · skip
    have n_1 : ¬ a = 0 := nf_neT rfl rfl (by omega) (by omega) c_1
    refine lv_iload_n hx hb dX6_isPart_50 rfl (lv_at hl 2 rfl) ?_
    refine lv_iconst (v := 2) hx hb dX6_isPart_51 (by decide) ?_
    refine lv_irem hx hb dX6_isPart_52 (by decide) ?_
    refine lv_iconst (v := 1) hx hb dX6_isPart_53 (by decide) ?_
    refine lv_icmp_ne (tgt := 87) hx hb dX6_isPart_54 (by decide) (fun c_54 => ?_) (fun c_54 => ?_)
    · skip
      have n_54 : ¬ (a % 2) = 1 := nf_neT (n_rem rfl rfl (by omega) (by omega) (by omega)) rfl (by omega) (by omega) c_54
      refine lv_aload_n hx hb dX6_isPart_87 rfl (lv_at hl 0 rfl) ?_
      refine lv_iload_n hx hb dX6_isPart_88 rfl (lv_at hl 1 rfl) ?_
      refine lv_iconst (v := 0) hx hb dX6_isPart_89 (by decide) ?_
      refine g_cV (As := [.int (nI k), .int 0]) (n := 2) (rest := []) (wc := [(o, .inr (6, [u0, .ref tx, u2, u3, u4, u5, u6, .int (nI rw9), .int (nI rf9), u9, u10, u11, u12, u13, u14, u15, u16, u17, u18, u19, u20, u21, u22, u23, u24, u25, u26, u27, u28, u29, u30, u31, u32, u33, u34, u35])), (tx, .inl (E 0, 120, .inl (txF tt)))]) (w1 := [(o, .inr (6, [u0, .ref tx, u2, u3, u4, u5, u6, .int (nI rw9), .int (nI rf9), u9, u10, u11, u12, u13, u14, u15, u16, u17, u18, u19, u20, u21, u22, u23, u24, u25, u26, u27, u28, u29, u30, u31, u32, u33, u34, u35])), (tx, .inl (E 0, 120, .inl (txF tt)))]) (bytes := cX6_isFigure) (maxL := 3) (ret := (some .boolean)) hc hw hl.1 (m_X6_isFigure (l := l) (D := D) (E := E) (T := T) o tx k 0 u0 u2 u3 u4 u5 u6 (.int (nI rw9)) (.int (nI rf9)) u9 u10 u11 u12 u13 u14 u15 u16 u17 u18 u19 u20 u21 u22 u23 u24 u25 u26 u27 u28 u29 u30 u31 u32 u33 u34 u35 tt (by first | assumption | omega | decide) (by first | assumption | omega | decide) (by first | assumption | omega | decide)) gX6_isPart_X6_isFigure rfl (by decide +kernel) (by rw [hR]; exact ⟨Nat.le_of_ble_eq_true rfl, Nat.le_of_ble_eq_true rfl⟩) [0, 1] 0 6 rfl rfl (by decide) rfl [o, tx] rfl rfl rfl rfl (Nat.le_of_ble_eq_true rfl) dX6_isPart_90 ⟨Nat.zero_le _, Nat.zero_le _⟩ (fun H locs hw => ?_)
      have hw : g_W D A s [(o, .inr (6, [u0, .ref tx, u2, u3, u4, u5, u6, .int (nI rw9), .int (nI rf9), u9, u10, u11, u12, u13, u14, u15, u16, u17, u18, u19, u20, u21, u22, u23, u24, u25, u26, u27, u28, u29, u30, u31, u32, u33, u34, u35])), (tx, .inl (E 0, 120, .inl (txF tt)))] H locs := hw
      exact g_zret hQ hc hw hr (by exact congrArg (fun z => some (Value.int (b2i z))) (decide_eq_decide.mpr (by unfold ptP; omega))) (by first | rfl | (split <;> rfl) | exact g_nb _) rfl dX6_isPart_93
    · skip
      have n_54 : (a % 2) = 1 := nf_neF (n_rem rfl rfl (by omega) (by omega) (by omega)) rfl (by omega) (by omega) c_54
      refine lv_aload_n hx hb dX6_isPart_57 rfl (lv_at hl 0 rfl) ?_
      refine g_get (TT := TX6) hc hw inX6_isPart_X6 0 1 1 rfl rfl (by decide) rfl rfl dX6_isPart_58 ?_
      refine lv_iload_n hx hb dX6_isPart_61 rfl (lv_at hl 1 rfl) ?_
      refine g_ild hc hw 1 k rfl rfl (by omega) (by decide) dX6_isPart_62 ?_
      refine lv_bipush (v := 43) hx hb dX6_isPart_63 (by decide) ?_
      refine lv_icmp_eq (tgt := 79) hx hb dX6_isPart_65 (by decide) (fun c_65 => ?_) (fun c_65 => ?_)
      · skip
        have n_65 : (tt k) = 43 := nf_eqT rfl rfl (by omega) (by omega) c_65
        refine lv_iconst (v := 1) hx hb dX6_isPart_79 (by decide) ?_
        refine lv_goto (tgt := 93) hx hb dX6_isPart_80 (by decide) ?_
        exact g_zret hQ hc hw hr (by exact congrArg (fun z => some (Value.int z)) (b2i_1 (by show  ptP (tt k) a rw9 rf9; unfold ptP; omega))) (by first | rfl | (split <;> rfl) | exact g_nb _) rfl dX6_isPart_93
      · skip
        have n_65 : ¬ (tt k) = 43 := nf_eqF rfl rfl (by omega) (by omega) c_65
        refine lv_aload_n hx hb dX6_isPart_68 rfl (lv_at hl 0 rfl) ?_
        refine g_get (TT := TX6) hc hw inX6_isPart_X6 0 1 1 rfl rfl (by decide) rfl rfl dX6_isPart_69 ?_
        refine lv_iload_n hx hb dX6_isPart_72 rfl (lv_at hl 1 rfl) ?_
        refine g_ild hc hw 1 k rfl rfl (by omega) (by decide) dX6_isPart_73 ?_
        refine lv_bipush (v := 45) hx hb dX6_isPart_74 (by decide) ?_
        refine lv_icmp_ne (tgt := 83) hx hb dX6_isPart_76 (by decide) (fun c_76 => ?_) (fun c_76 => ?_)
        · skip
          have n_76 : ¬ (tt k) = 45 := nf_neT rfl rfl (by omega) (by omega) c_76
          refine lv_iconst (v := 0) hx hb dX6_isPart_83 (by decide) ?_
          refine lv_goto (tgt := 93) hx hb dX6_isPart_84 (by decide) ?_
          exact g_zret hQ hc hw hr (by exact congrArg (fun z => some (Value.int z)) (b2i_0 (by show ¬ ptP (tt k) a rw9 rf9; unfold ptP; omega))) (by first | rfl | (split <;> rfl) | exact g_nb _) rfl dX6_isPart_93
        · skip
          have n_76 : (tt k) = 45 := nf_neF rfl rfl (by omega) (by omega) c_76
          refine lv_iconst (v := 1) hx hb dX6_isPart_79 (by decide) ?_
          refine lv_goto (tgt := 93) hx hb dX6_isPart_80 (by decide) ?_
          exact g_zret hQ hc hw hr (by exact congrArg (fun z => some (Value.int z)) (b2i_1 (by show  ptP (tt k) a rw9 rf9; unfold ptP; omega))) (by first | rfl | (split <;> rfl) | exact g_nb _) rfl dX6_isPart_93
  · skip
    have n_1 : a = 0 := nf_neF rfl rfl (by omega) (by omega) c_1
    refine lv_aload_n hx hb dX6_isPart_4 rfl (lv_at hl 0 rfl) ?_
    refine g_get (TT := TX6) hc hw inX6_isPart_X6 0 1 1 rfl rfl (by decide) rfl rfl dX6_isPart_5 ?_
    refine lv_iload_n hx hb dX6_isPart_8 rfl (lv_at hl 1 rfl) ?_
    refine g_ild hc hw 1 k rfl rfl (by omega) (by decide) dX6_isPart_9 ?_
    refine lv_bipush (v := 119) hx hb dX6_isPart_10 (by decide) ?_
    refine lv_icmp_ne (tgt := 24) hx hb dX6_isPart_12 (by decide) (fun c_12 => ?_) (fun c_12 => ?_)
    · skip
      have n_12 : ¬ (tt k) = 119 := nf_neT rfl rfl (by omega) (by omega) c_12
      refine lv_aload_n hx hb dX6_isPart_24 rfl (lv_at hl 0 rfl) ?_
      refine g_get (TT := TX6) hc hw inX6_isPart_X6 0 1 1 rfl rfl (by decide) rfl rfl dX6_isPart_25 ?_
      refine lv_iload_n hx hb dX6_isPart_28 rfl (lv_at hl 1 rfl) ?_
      refine g_ild hc hw 1 k rfl rfl (by omega) (by decide) dX6_isPart_29 ?_
      refine lv_bipush (v := 102) hx hb dX6_isPart_30 (by decide) ?_
      refine lv_icmp_ne (tgt := 48) hx hb dX6_isPart_32 (by decide) (fun c_32 => ?_) (fun c_32 => ?_)
      · skip
        have n_32 : ¬ (tt k) = 102 := nf_neT rfl rfl (by omega) (by omega) c_32
        refine lv_iconst (v := 0) hx hb dX6_isPart_48 (by decide) ?_
        exact g_zret hQ hc hw hr (by exact congrArg (fun z => some (Value.int z)) (b2i_0 (by show ¬ ptP (tt k) a rw9 rf9; unfold ptP; omega))) (by first | rfl | (split <;> rfl) | exact g_nb _) rfl dX6_isPart_49
      · skip
        have n_32 : (tt k) = 102 := nf_neF rfl rfl (by omega) (by omega) c_32
        refine lv_aload_n hx hb dX6_isPart_35 rfl (lv_at hl 0 rfl) ?_
        refine g_get (TT := TX6) hc hw inX6_isPart_X6 0 8 3 rfl rfl (by decide) rfl rfl dX6_isPart_36 ?_
        refine lv_bipush (v := 6) hx hb dX6_isPart_39 (by decide) ?_
        refine lv_icmp_ge (tgt := 48) hx hb dX6_isPart_41 (by decide) (fun c_41 => ?_) (fun c_41 => ?_)
        · skip
          have n_41 : 6 ≤ rf9 := nf_geT rfl rfl (by omega) (by omega) c_41
          refine lv_iconst (v := 0) hx hb dX6_isPart_48 (by decide) ?_
          exact g_zret hQ hc hw hr (by exact congrArg (fun z => some (Value.int z)) (b2i_0 (by show ¬ ptP (tt k) a rw9 rf9; unfold ptP; omega))) (by first | rfl | (split <;> rfl) | exact g_nb _) rfl dX6_isPart_49
        · skip
          have n_41 : rf9 < 6 := nf_geF rfl rfl (by omega) (by omega) c_41
          refine lv_iconst (v := 1) hx hb dX6_isPart_44 (by decide) ?_
          refine lv_goto (tgt := 49) hx hb dX6_isPart_45 (by decide) ?_
          exact g_zret hQ hc hw hr (by exact congrArg (fun z => some (Value.int z)) (b2i_1 (by show  ptP (tt k) a rw9 rf9; unfold ptP; omega))) (by first | rfl | (split <;> rfl) | exact g_nb _) rfl dX6_isPart_49
    · skip
      have n_12 : (tt k) = 119 := nf_neF rfl rfl (by omega) (by omega) c_12
      refine lv_aload_n hx hb dX6_isPart_15 rfl (lv_at hl 0 rfl) ?_
      refine g_get (TT := TX6) hc hw inX6_isPart_X6 0 7 2 rfl rfl (by decide) rfl rfl dX6_isPart_16 ?_
      refine lv_bipush (v := 6) hx hb dX6_isPart_19 (by decide) ?_
      refine lv_icmp_lt (tgt := 44) hx hb dX6_isPart_21 (by decide) (fun c_21 => ?_) (fun c_21 => ?_)
      · skip
        have n_21 : rw9 < 6 := nf_ltT rfl rfl (by omega) (by omega) c_21
        refine lv_iconst (v := 1) hx hb dX6_isPart_44 (by decide) ?_
        refine lv_goto (tgt := 49) hx hb dX6_isPart_45 (by decide) ?_
        exact g_zret hQ hc hw hr (by exact congrArg (fun z => some (Value.int z)) (b2i_1 (by show  ptP (tt k) a rw9 rf9; unfold ptP; omega))) (by first | rfl | (split <;> rfl) | exact g_nb _) rfl dX6_isPart_49
      · skip
        have n_21 : 6 ≤ rw9 := nf_ltF rfl rfl (by omega) (by omega) c_21
        refine lv_aload_n hx hb dX6_isPart_24 rfl (lv_at hl 0 rfl) ?_
        refine g_get (TT := TX6) hc hw inX6_isPart_X6 0 1 1 rfl rfl (by decide) rfl rfl dX6_isPart_25 ?_
        refine lv_iload_n hx hb dX6_isPart_28 rfl (lv_at hl 1 rfl) ?_
        refine g_ild hc hw 1 k rfl rfl (by omega) (by decide) dX6_isPart_29 ?_
        refine lv_bipush (v := 102) hx hb dX6_isPart_30 (by decide) ?_
        refine lv_icmp_ne (tgt := 48) hx hb dX6_isPart_32 (by decide) (fun c_32 => ?_) (fun c_32 => ?_)
        · skip
          have n_32 : ¬ (tt k) = 102 := nf_neT rfl rfl (by omega) (by omega) c_32
          refine lv_iconst (v := 0) hx hb dX6_isPart_48 (by decide) ?_
          exact g_zret hQ hc hw hr (by exact congrArg (fun z => some (Value.int z)) (b2i_0 (by show ¬ ptP (tt k) a rw9 rf9; unfold ptP; omega))) (by first | rfl | (split <;> rfl) | exact g_nb _) rfl dX6_isPart_49
        · skip
          have n_32 : (tt k) = 102 := nf_neF rfl rfl (by omega) (by omega) c_32
          refine lv_aload_n hx hb dX6_isPart_35 rfl (lv_at hl 0 rfl) ?_
          refine g_get (TT := TX6) hc hw inX6_isPart_X6 0 8 3 rfl rfl (by decide) rfl rfl dX6_isPart_36 ?_
          refine lv_bipush (v := 6) hx hb dX6_isPart_39 (by decide) ?_
          refine lv_icmp_ge (tgt := 48) hx hb dX6_isPart_41 (by decide) (fun c_41 => ?_) (fun c_41 => ?_)
          · skip
            have n_41 : 6 ≤ rf9 := nf_geT rfl rfl (by omega) (by omega) c_41
            refine lv_iconst (v := 0) hx hb dX6_isPart_48 (by decide) ?_
            exact g_zret hQ hc hw hr (by exact congrArg (fun z => some (Value.int z)) (b2i_0 (by show ¬ ptP (tt k) a rw9 rf9; unfold ptP; omega))) (by first | rfl | (split <;> rfl) | exact g_nb _) rfl dX6_isPart_49
          · skip
            have n_41 : rf9 < 6 := nf_geF rfl rfl (by omega) (by omega) c_41
            refine lv_iconst (v := 1) hx hb dX6_isPart_44 (by decide) ?_
            refine lv_goto (tgt := 49) hx hb dX6_isPart_45 (by decide) ?_
            exact g_zret hQ hc hw hr (by exact congrArg (fun z => some (Value.int z)) (b2i_1 (by show  ptP (tt k) a rw9 rf9; unfold ptP; omega))) (by first | rfl | (split <;> rfl) | exact g_nb _) rfl dX6_isPart_49

theorem dX6_number_0 : decode cX6_number 0 = .ok (.aload_n 0, 1) := by decide +kernel
theorem dX6_number_1 : decode cX6_number 1 = .ok (.getfield 7, 3) := by decide +kernel
theorem dX6_number_4 : decode cX6_number 4 = .ok (.iload_n 1, 1) := by decide +kernel
theorem dX6_number_5 : decode cX6_number 5 = .ok (.iaload, 1) := by decide +kernel
theorem dX6_number_6 : decode cX6_number 6 = .ok (.bipush 45, 2) := by decide +kernel
theorem dX6_number_8 : decode cX6_number 8 = .ok (.if_icmp .ne 17, 3) := by decide +kernel
theorem dX6_number_11 : decode cX6_number 11 = .ok (.bipush 48, 2) := by decide +kernel
theorem dX6_number_13 : decode cX6_number 13 = .ok (.aload_n 0, 1) := by decide +kernel
theorem dX6_number_14 : decode cX6_number 14 = .ok (.getfield 7, 3) := by decide +kernel
theorem dX6_number_17 : decode cX6_number 17 = .ok (.iload_n 1, 1) := by decide +kernel
theorem dX6_number_18 : decode cX6_number 18 = .ok (.iconst 1, 1) := by decide +kernel
theorem dX6_number_19 : decode cX6_number 19 = .ok (.iadd, 1) := by decide +kernel
theorem dX6_number_20 : decode cX6_number 20 = .ok (.iaload, 1) := by decide +kernel
theorem dX6_number_21 : decode cX6_number 21 = .ok (.isub, 1) := by decide +kernel
theorem dX6_number_22 : decode cX6_number 22 = .ok (.goto 14, 3) := by decide +kernel
theorem dX6_number_25 : decode cX6_number 25 = .ok (.aload_n 0, 1) := by decide +kernel
theorem dX6_number_26 : decode cX6_number 26 = .ok (.getfield 7, 3) := by decide +kernel
theorem dX6_number_29 : decode cX6_number 29 = .ok (.iload_n 1, 1) := by decide +kernel
theorem dX6_number_30 : decode cX6_number 30 = .ok (.iconst 1, 1) := by decide +kernel
theorem dX6_number_31 : decode cX6_number 31 = .ok (.iadd, 1) := by decide +kernel
theorem dX6_number_32 : decode cX6_number 32 = .ok (.iaload, 1) := by decide +kernel
theorem dX6_number_33 : decode cX6_number 33 = .ok (.bipush 48, 2) := by decide +kernel
theorem dX6_number_35 : decode cX6_number 35 = .ok (.isub, 1) := by decide +kernel
theorem dX6_number_36 : decode cX6_number 36 = .ok (.ireturn, 1) := by decide +kernel
theorem inX6_number_X6 : ∀ w ∈ u_ws RX6 TX6 36, w ∈ wsX6_number := fun w h => List.mem_cons_of_mem _ (List.mem_append_right _ h)
set_option maxRecDepth 100000 in
set_option maxHeartbeats 4000000 in
theorem m_X6_number {l : Launch} {D : va_G} {E : Nat → ClassId} {T : Nat → Nat} (o : Nat) (tx : Nat) (k : Nat) (u0 : Value) (u2 : Value) (u3 : Value) (u4 : Value) (u5 : Value) (u6 : Value) (u7 : Value) (u8 : Value) (u9 : Value) (u10 : Value) (u11 : Value) (u12 : Value) (u13 : Value) (u14 : Value) (u15 : Value) (u16 : Value) (u17 : Value) (u18 : Value) (u19 : Value) (u20 : Value) (u21 : Value) (u22 : Value) (u23 : Value) (u24 : Value) (u25 : Value) (u26 : Value) (u27 : Value) (u28 : Value) (u29 : Value) (u30 : Value) (u31 : Value) (u32 : Value) (u33 : Value) (u34 : Value) (u35 : Value) (tt : Nat → Nat) (hk : k + 1 < 120) (ht9 : ∀ j, tt j < 256) : g_M l D E T yX6_number wsX6_number 0 0 [.ref o, .int (nI k)] [(o, .inr (6, [u0, .ref tx, u2, u3, u4, u5, u6, u7, u8, u9, u10, u11, u12, u13, u14, u15, u16, u17, u18, u19, u20, u21, u22, u23, u24, u25, u26, u27, u28, u29, u30, u31, u32, u33, u34, u35])), (tx, .inl (E 0, 120, .inl (txF tt)))] [(o, .inr (6, [u0, .ref tx, u2, u3, u4, u5, u6, u7, u8, u9, u10, u11, u12, u13, u14, u15, u16, u17, u18, u19, u20, u21, u22, u23, u24, u25, u26, u27, u28, u29, u30, u31, u32, u33, u34, u35])), (tx, .inl (E 0, 120, .inl (txF tt)))] (some (.int (nuF tt k))) := by
  have hti := ht9 k
  refine g_M.of (cc := cX6_number) (nL := 2) (ret := (some .int)) (own := RX6) (lv := [(0, .ref o), (1, .int (nI k))]) (by decide) rfl rfl (Nat.le_of_ble_eq_true rfl) rfl ?_
  intro p e R s m args below meth c A Q H locs ls hR hQ hc hr hw hl
  have hx := hc.1
  have hb := hc.2.1
  have hts := hc.2.2.2.1
  have hown := hc.2.2.2.2.1
  refine lv_aload_n hx hb dX6_number_0 rfl (lv_at hl 0 rfl) ?_
  refine g_get (TT := TX6) hc hw inX6_number_X6 0 1 1 rfl rfl (by decide) rfl rfl dX6_number_1 ?_
  refine lv_iload_n hx hb dX6_number_4 rfl (lv_at hl 1 rfl) ?_
  refine g_ild hc hw 1 k rfl rfl (by omega) (by decide) dX6_number_5 ?_
  refine lv_bipush (v := 45) hx hb dX6_number_6 (by decide) ?_
  refine lv_icmp_ne (tgt := 25) hx hb dX6_number_8 (by decide) (fun c_8 => ?_) (fun c_8 => ?_)
  · skip
    have n_8 : ¬ (tt k) = 45 := nf_neT rfl rfl (by omega) (by omega) c_8
    refine lv_aload_n hx hb dX6_number_25 rfl (lv_at hl 0 rfl) ?_
    refine g_get (TT := TX6) hc hw inX6_number_X6 0 1 1 rfl rfl (by decide) rfl rfl dX6_number_26 ?_
    refine lv_iload_n hx hb dX6_number_29 rfl (lv_at hl 1 rfl) ?_
    refine lv_iconst (v := 1) hx hb dX6_number_30 (by decide) ?_
    refine lv_iadd hx hb dX6_number_31 ?_
    refine g_ild hc hw 1 (k + 1) rfl (n_add rfl rfl) (by omega) (by decide) dX6_number_32 ?_
    refine lv_bipush (v := 48) hx hb dX6_number_33 (by decide) ?_
    refine lv_isub hx hb dX6_number_35 ?_
    exact g_iret hQ hc hw hr (by exact congrArg (fun z => some (Value.int z)) (nu_p n_8).symm) rfl dX6_number_36
  · skip
    have n_8 : (tt k) = 45 := nf_neF rfl rfl (by omega) (by omega) c_8
    refine lv_bipush (v := 48) hx hb dX6_number_11 (by decide) ?_
    refine lv_aload_n hx hb dX6_number_13 rfl (lv_at hl 0 rfl) ?_
    refine g_get (TT := TX6) hc hw inX6_number_X6 0 1 1 rfl rfl (by decide) rfl rfl dX6_number_14 ?_
    refine lv_iload_n hx hb dX6_number_17 rfl (lv_at hl 1 rfl) ?_
    refine lv_iconst (v := 1) hx hb dX6_number_18 (by decide) ?_
    refine lv_iadd hx hb dX6_number_19 ?_
    refine g_ild hc hw 1 (k + 1) rfl (n_add rfl rfl) (by omega) (by decide) dX6_number_20 ?_
    refine lv_isub hx hb dX6_number_21 ?_
    refine lv_goto (tgt := 36) hx hb dX6_number_22 (by decide) ?_
    exact g_iret hQ hc hw hr (by exact congrArg (fun z => some (Value.int z)) (nu_n n_8).symm) rfl dX6_number_36

theorem dX6_longPower_0 : decode cX6_longPower 0 = .ok (.lconst 1, 1) := by decide +kernel
theorem dX6_longPower_1 : decode cX6_longPower 1 = .ok (.lstore_n 3, 1) := by decide +kernel
theorem dX6_longPower_2 : decode cX6_longPower 2 = .ok (.iconst 0, 1) := by decide +kernel
theorem dX6_longPower_3 : decode cX6_longPower 3 = .ok (.istore 5, 2) := by decide +kernel
theorem dX6_longPower_5 : decode cX6_longPower 5 = .ok (.iload 5, 2) := by decide +kernel
theorem dX6_longPower_7 : decode cX6_longPower 7 = .ok (.iload_n 2, 1) := by decide +kernel
theorem dX6_longPower_8 : decode cX6_longPower 8 = .ok (.if_icmp .ge 13, 3) := by decide +kernel
theorem dX6_longPower_11 : decode cX6_longPower 11 = .ok (.lload_n 3, 1) := by decide +kernel
theorem dX6_longPower_12 : decode cX6_longPower 12 = .ok (.lload_n 0, 1) := by decide +kernel
theorem dX6_longPower_13 : decode cX6_longPower 13 = .ok (.lmul, 1) := by decide +kernel
theorem dX6_longPower_14 : decode cX6_longPower 14 = .ok (.lstore_n 3, 1) := by decide +kernel
theorem dX6_longPower_15 : decode cX6_longPower 15 = .ok (.iinc 5 1, 3) := by decide +kernel
theorem dX6_longPower_18 : decode cX6_longPower 18 = .ok (.goto (-13), 3) := by decide +kernel
theorem dX6_longPower_21 : decode cX6_longPower 21 = .ok (.lload_n 3, 1) := by decide +kernel
theorem dX6_longPower_22 : decode cX6_longPower 22 = .ok (.lreturn, 1) := by decide +kernel
set_option maxRecDepth 100000 in
set_option maxHeartbeats 4000000 in
theorem m_X6_longPower {l : Launch} {D : va_G} {E : Nat → ClassId} {T : Nat → Nat} (n : Nat) (hn : n < 100) : g_M l D E T yX6_longPower wsX6_longPower 0 0 [.long 10000, .int (nI n)] [] [] (some (.long (rwF n))) := by
  refine g_M.of (cc := cX6_longPower) (nL := 6) (ret := (some .long)) (own := RX6) (lv := [(0, .long 10000), (2, .int (nI n))]) (by decide) rfl rfl (Nat.le_of_ble_eq_true rfl) rfl ?_
  intro p e R s m args below meth c A Q H locs ls hR hQ hc hr hw hl
  have hx := hc.1
  have hb := hc.2.1
  have hts := hc.2.2.2.1
  have hown := hc.2.2.2.2.1
  refine lv_lconst (v := 1) hx hb dX6_longPower_0 (by decide) ?_
  refine lv_lstore_n (lv' := [(3, .long 1), (0, .long 10000), (2, .int (nI n))]) hx hb dX6_longPower_1 rfl hl (by decide) rfl (fun ls hl => ?_)
  refine lv_iconst (v := 0) hx hb dX6_longPower_2 (by decide) ?_
  refine lv_istore (lv' := [(5, .int 0), (3, .long 1), (0, .long 10000), (2, .int (nI n))]) hx hb dX6_longPower_3 hl (by decide) rfl (fun ls hl => ?_)
  have J5 : ∀ (k9 : Nat) (i : Nat), i + k9 = n → ∀ (H : Heap) (locs : List Loc) (ls : Array Slot), g_W D A s [] H locs → lv_has ls 6 [(0, .long 10000), (2, .int (nI n)), (3, .long (rwF i)), (5, .int (nI i))] → W p l e R s m args below meth c H locs 0 0 Q (F0 m 5 ls []) := by
    intro k9
    induction k9 with
    | zero =>
      intro i h9   H locs ls hw hl
      have h9 : n = i := Eq.symm h9
      subst h9
      refine lv_iload hx hb dX6_longPower_5 (lv_at hl 3 rfl) ?_
      refine lv_iload_n hx hb dX6_longPower_7 rfl (lv_at hl 1 rfl) ?_
      refine lv_icmp_ge (tgt := 21) hx hb dX6_longPower_8 (by decide) (fun c_8 => ?_) (fun c_8 => absurd (by first | exact Int32.le_refl _ | decide) c_8)
      refine lv_lload_n hx hb dX6_longPower_21 rfl (lv_at hl 2 rfl) ?_
      exact g_lret hQ hc hw hr rfl rfl dX6_longPower_22
    | succ k9 ih =>
      intro i h9   H locs ls hw hl
      have h9b : i < n := by omega
      refine lv_iload hx hb dX6_longPower_5 (lv_at hl 3 rfl) ?_
      refine lv_iload_n hx hb dX6_longPower_7 rfl (lv_at hl 1 rfl) ?_
      refine lv_icmp_ge (tgt := 21) hx hb dX6_longPower_8 (by decide) (fun c_8 => absurd c_8 (nI_ge h9b (by omega))) (fun c_8 => ?_)
      refine lv_lload_n hx hb dX6_longPower_11 rfl (lv_at hl 2 rfl) ?_
      refine lv_lload_n hx hb dX6_longPower_12 rfl (lv_at hl 0 rfl) ?_
      refine lv_lmul hx hb dX6_longPower_13 ?_
      refine lv_lstore_n (lv' := [(3, .long ((rwF i) * 10000)), (0, .long 10000), (2, .int (nI n)), (5, .int (nI i))]) hx hb dX6_longPower_14 rfl hl (by decide) rfl (fun ls hl => ?_)
      refine lv_iinc (v := nI (i + 1)) (lv' := [(5, .int (nI (i + 1))), (3, .long ((rwF i) * 10000)), (0, .long 10000), (2, .int (nI n))]) hx hb dX6_longPower_15 hl (k := 3) rfl (n_inc1 rfl) (by decide) rfl (fun ls hl => ?_)
      refine lv_goto (tgt := 5) hx hb dX6_longPower_18 (by decide) ?_
      exact ih (i + 1) (by omega)   _ _ _ hw (lv_sub hl [2, 3, 1, 0] rfl)
  exact J5 n 0 (by omega)   _ _ _ hw (lv_sub hl [2, 3, 1, 0] rfl)

theorem dX6_factorial_0 : decode cX6_factorial 0 = .ok (.iconst 1, 1) := by decide +kernel
theorem dX6_factorial_1 : decode cX6_factorial 1 = .ok (.istore_n 1, 1) := by decide +kernel
theorem dX6_factorial_2 : decode cX6_factorial 2 = .ok (.iconst 2, 1) := by decide +kernel
theorem dX6_factorial_3 : decode cX6_factorial 3 = .ok (.istore_n 2, 1) := by decide +kernel
theorem dX6_factorial_4 : decode cX6_factorial 4 = .ok (.iload_n 2, 1) := by decide +kernel
theorem dX6_factorial_5 : decode cX6_factorial 5 = .ok (.iload_n 0, 1) := by decide +kernel
theorem dX6_factorial_6 : decode cX6_factorial 6 = .ok (.if_icmp .gt 13, 3) := by decide +kernel
theorem dX6_factorial_9 : decode cX6_factorial 9 = .ok (.iload_n 1, 1) := by decide +kernel
theorem dX6_factorial_10 : decode cX6_factorial 10 = .ok (.iload_n 2, 1) := by decide +kernel
theorem dX6_factorial_11 : decode cX6_factorial 11 = .ok (.imul, 1) := by decide +kernel
theorem dX6_factorial_12 : decode cX6_factorial 12 = .ok (.istore_n 1, 1) := by decide +kernel
theorem dX6_factorial_13 : decode cX6_factorial 13 = .ok (.iinc 2 1, 3) := by decide +kernel
theorem dX6_factorial_16 : decode cX6_factorial 16 = .ok (.goto (-12), 3) := by decide +kernel
theorem dX6_factorial_19 : decode cX6_factorial 19 = .ok (.iload_n 1, 1) := by decide +kernel
theorem dX6_factorial_20 : decode cX6_factorial 20 = .ok (.ireturn, 1) := by decide +kernel
set_option maxRecDepth 100000 in
set_option maxHeartbeats 4000000 in
theorem m_X6_factorial {l : Launch} {D : va_G} {E : Nat → ClassId} {T : Nat → Nat} (n : Nat) (hn : n < 100) : g_M l D E T yX6_factorial wsX6_factorial 0 0 [.int (nI n)] [] [] (some (.int (facF n))) := by
  refine g_M.of (cc := cX6_factorial) (nL := 3) (ret := (some .int)) (own := RX6) (lv := [(0, .int (nI n))]) (by decide) rfl rfl (Nat.le_of_ble_eq_true rfl) rfl ?_
  intro p e R s m args below meth c A Q H locs ls hR hQ hc hr hw hl
  have hx := hc.1
  have hb := hc.2.1
  have hts := hc.2.2.2.1
  have hown := hc.2.2.2.2.1
  refine lv_iconst (v := 1) hx hb dX6_factorial_0 (by decide) ?_
  refine lv_istore_n (lv' := [(1, .int 1), (0, .int (nI n))]) hx hb dX6_factorial_1 rfl hl (by decide) rfl (fun ls hl => ?_)
  refine lv_iconst (v := 2) hx hb dX6_factorial_2 (by decide) ?_
  refine lv_istore_n (lv' := [(2, .int 2), (1, .int 1), (0, .int (nI n))]) hx hb dX6_factorial_3 rfl hl (by decide) rfl (fun ls hl => ?_)
  have J4 : ∀ (k9 : Nat) (i : Nat), i + k9 = n → (i + 1 ≤ max n 1) → ∀ (H : Heap) (locs : List Loc) (ls : Array Slot), g_W D A s [] H locs → lv_has ls 3 [(0, .int (nI n)), (1, .int (facF (i + 1))), (2, .int (nI (i + 2)))] → W p l e R s m args below meth c H locs 0 0 Q (F0 m 4 ls []) := by
    intro k9
    induction k9 with
    | zero =>
      intro i h9  hi H locs ls hw hl
      have h9 : n = i := Eq.symm h9
      subst h9
      refine lv_iload_n hx hb dX6_factorial_4 rfl (lv_at hl 2 rfl) ?_
      refine lv_iload_n hx hb dX6_factorial_5 rfl (lv_at hl 0 rfl) ?_
      refine lv_icmp_gt (tgt := 19) hx hb dX6_factorial_6 (by decide) (fun c_6 => ?_) (fun c_6 => absurd (nI_lt (show n < n + 2 by omega) (by omega)) c_6)
      refine lv_iload_n hx hb dX6_factorial_19 rfl (lv_at hl 1 rfl) ?_
      exact g_iret hQ hc hw hr (by exact congrArg (fun z => some (Value.int z)) (fac_leaf (i := n) hi (by omega)).symm) rfl dX6_factorial_20
    | succ k9 ih =>
      intro i h9  hi H locs ls hw hl
      have h9b : i < n := by omega
      refine lv_iload_n hx hb dX6_factorial_4 rfl (lv_at hl 2 rfl) ?_
      refine lv_iload_n hx hb dX6_factorial_5 rfl (lv_at hl 0 rfl) ?_
      refine lv_icmp_gt (tgt := 19) hx hb dX6_factorial_6 (by decide) (fun c_6 => ?_) (fun c_6 => ?_)
      · skip
        have h6 : n < i + 2 := (nI_ltI (by omega) (by omega)).mp c_6
        refine lv_iload_n hx hb dX6_factorial_19 rfl (lv_at hl 1 rfl) ?_
        exact g_iret hQ hc hw hr (by exact congrArg (fun z => some (Value.int z)) (fac_leaf hi h6).symm) rfl dX6_factorial_20
      · skip
        have h6 : i + 2 ≤ n := Nat.not_lt.mp (fun q => c_6 ((nI_ltI (by omega) (by omega)).mpr q))
        refine lv_iload_n hx hb dX6_factorial_9 rfl (lv_at hl 1 rfl) ?_
        refine lv_iload_n hx hb dX6_factorial_10 rfl (lv_at hl 2 rfl) ?_
        refine lv_imul hx hb dX6_factorial_11 ?_
        refine lv_istore_n (lv' := [(1, .int ((facF (i + 1)) * (nI (i + 2)))), (0, .int (nI n)), (2, .int (nI (i + 2)))]) hx hb dX6_factorial_12 rfl hl (by decide) rfl (fun ls hl => ?_)
        refine lv_iinc (v := nI ((i + 2) + 1)) (lv' := [(2, .int (nI ((i + 2) + 1))), (1, .int ((facF (i + 1)) * (nI (i + 2)))), (0, .int (nI n))]) hx hb dX6_factorial_13 hl (k := 2) rfl (n_inc1 rfl) (by decide) rfl (fun ls hl => ?_)
        refine lv_goto (tgt := 4) hx hb dX6_factorial_16 (by decide) ?_
        exact ih (i + 1) (by omega)  (by omega) _ _ _ hw (lv_sub hl [2, 1, 0] rfl)
  exact J4 n 0 (by omega)  (by omega) _ _ _ hw (lv_sub hl [2, 1, 0] rfl)

theorem dX6_thousandths_0 : decode cX6_thousandths 0 = .ok (.fload_n 0, 1) := by decide +kernel
theorem dX6_thousandths_1 : decode cX6_thousandths 1 = .ok (.ldc 212, 2) := by decide +kernel
theorem dX6_thousandths_3 : decode cX6_thousandths 3 = .ok (.fmul, 1) := by decide +kernel
theorem dX6_thousandths_4 : decode cX6_thousandths 4 = .ok (.f2i, 1) := by decide +kernel
theorem dX6_thousandths_5 : decode cX6_thousandths 5 = .ok (.ireturn, 1) := by decide +kernel
set_option maxRecDepth 100000 in
set_option maxHeartbeats 4000000 in
theorem m_X6_thousandths {l : Launch} {D : va_G} {E : Nat → ClassId} {T : Nat → Nat} (v : UInt32) (hv : g_mg 143 v) : g_M l D E T yX6_thousandths wsX6_thousandths 0 0 [.float v] [] [] (some (.int (thF v))) := by
  refine g_M.of (cc := cX6_thousandths) (nL := 1) (ret := (some .int)) (own := RX6) (lv := [(0, .float v)]) (by decide) rfl rfl (Nat.le_of_ble_eq_true rfl) rfl ?_
  intro p e R s m args below meth c A Q H locs ls hR hQ hc hr hw hl
  have hx := hc.1
  have hb := hc.2.1
  have hts := hc.2.2.2.1
  have hown := hc.2.2.2.2.1
  refine lv_fload_n hx hb dX6_thousandths_0 rfl (lv_at hl 0 rfl) ?_
  refine lv_ldcf (v := 1148846080) hx hb hown (hts _ (List.mem_of_getElem? (i := 1) rfl)) dX6_thousandths_1 ?_
  refine lv_fmul hx hb dX6_thousandths_3 (g_nn (g_mgmul (Ka := 143) (Kb := 137) (K := 154) hv (g_mgk (by decide)) (by decide) (by decide)) (by decide)) ?_
  refine lv_f2i hx hb dX6_thousandths_4 ?_
  exact g_iret hQ hc hw hr rfl rfl dX6_thousandths_5

theorem dX6_divisor_0 : decode cX6_divisor 0 = .ok (.iload_n 0, 1) := by decide +kernel
theorem dX6_divisor_1 : decode cX6_divisor 1 = .ok (.ifCond .ge 8, 3) := by decide +kernel
theorem dX6_divisor_4 : decode cX6_divisor 4 = .ok (.iload_n 0, 1) := by decide +kernel
theorem dX6_divisor_5 : decode cX6_divisor 5 = .ok (.ineg, 1) := by decide +kernel
theorem dX6_divisor_6 : decode cX6_divisor 6 = .ok (.goto 4, 3) := by decide +kernel
theorem dX6_divisor_9 : decode cX6_divisor 9 = .ok (.iload_n 0, 1) := by decide +kernel
theorem dX6_divisor_10 : decode cX6_divisor 10 = .ok (.istore_n 2, 1) := by decide +kernel
theorem dX6_divisor_11 : decode cX6_divisor 11 = .ok (.iload_n 1, 1) := by decide +kernel
theorem dX6_divisor_12 : decode cX6_divisor 12 = .ok (.istore_n 3, 1) := by decide +kernel
theorem dX6_divisor_13 : decode cX6_divisor 13 = .ok (.iload_n 3, 1) := by decide +kernel
theorem dX6_divisor_14 : decode cX6_divisor 14 = .ok (.ifCond .eq 16, 3) := by decide +kernel
theorem dX6_divisor_17 : decode cX6_divisor 17 = .ok (.iload_n 2, 1) := by decide +kernel
theorem dX6_divisor_18 : decode cX6_divisor 18 = .ok (.iload_n 3, 1) := by decide +kernel
theorem dX6_divisor_19 : decode cX6_divisor 19 = .ok (.irem, 1) := by decide +kernel
theorem dX6_divisor_20 : decode cX6_divisor 20 = .ok (.istore 4, 2) := by decide +kernel
theorem dX6_divisor_22 : decode cX6_divisor 22 = .ok (.iload_n 3, 1) := by decide +kernel
theorem dX6_divisor_23 : decode cX6_divisor 23 = .ok (.istore_n 2, 1) := by decide +kernel
theorem dX6_divisor_24 : decode cX6_divisor 24 = .ok (.iload 4, 2) := by decide +kernel
theorem dX6_divisor_26 : decode cX6_divisor 26 = .ok (.istore_n 3, 1) := by decide +kernel
theorem dX6_divisor_27 : decode cX6_divisor 27 = .ok (.goto (-14), 3) := by decide +kernel
theorem dX6_divisor_30 : decode cX6_divisor 30 = .ok (.iload_n 2, 1) := by decide +kernel
theorem dX6_divisor_31 : decode cX6_divisor 31 = .ok (.ireturn, 1) := by decide +kernel
set_option maxRecDepth 100000 in
set_option maxHeartbeats 4000000 in
theorem m_X6_divisor {l : Launch} {D : va_G} {E : Nat → ClassId} {T : Nat → Nat} (over : Int32) (u : Nat) (w : Nat) (hab : (if 0 ≤ over then over else 0 - over) = nI w) (hw9 : w < 2 ^ 31) (hu0 : 0 < u) (hu : u < 2 ^ 31) : g_M l D E T yX6_divisor wsX6_divisor 0 0 [.int over, .int (nI u)] [] [] (some (.int (nI (Nat.gcd w u)))) := by
  refine g_M.of (cc := cX6_divisor) (nL := 5) (ret := (some .int)) (own := RX6) (lv := [(0, .int over), (1, .int (nI u))]) (by decide) rfl rfl (Nat.le_of_ble_eq_true rfl) rfl ?_
  intro p e R s m args below meth c A Q H locs ls hR hQ hc hr hw hl
  have hx := hc.1
  have hb := hc.2.1
  have hts := hc.2.2.2.1
  have hown := hc.2.2.2.2.1
  refine lv_iload_n hx hb dX6_divisor_0 rfl (lv_at hl 0 rfl) ?_
  have J10 : ∀ (H : Heap) (locs : List Loc) (ls : Array Slot), g_W D A s [] H locs → lv_has ls 5 [(0, .int over), (1, .int (nI u))] → W p l e R s m args below meth c H locs 0 0 Q (F0 m 10 ls [.int (nI w)]) := by
    intro   H locs ls hw hl
    refine lv_istore_n (lv' := [(2, .int (nI w)), (0, .int over), (1, .int (nI u))]) hx hb dX6_divisor_10 rfl hl (by decide) rfl (fun ls hl => ?_)
    refine lv_iload_n hx hb dX6_divisor_11 rfl (lv_at hl 2 rfl) ?_
    refine lv_istore_n (lv' := [(3, .int (nI u)), (2, .int (nI w)), (0, .int over), (1, .int (nI u))]) hx hb dX6_divisor_12 rfl hl (by decide) rfl (fun ls hl => ?_)
    refine lv_iload_n hx hb dX6_divisor_13 rfl (lv_at hl 0 rfl) ?_
    refine lv_if_eq (tgt := 30) hx hb dX6_divisor_14 (by decide) (fun c_14 => absurd c_14 (nI_ne0 hu0 hu)) (fun c_14 => ?_)
    refine lv_iload_n hx hb dX6_divisor_17 rfl (lv_at hl 1 rfl) ?_
    refine lv_iload_n hx hb dX6_divisor_18 rfl (lv_at hl 0 rfl) ?_
    refine lv_irem hx hb dX6_divisor_19 (by first | exact nI_ne0 hu0 hu | exact nI_ne0 h14 (by omega)) ?_
    refine W.eq (congrArg (fun z => F0 m 20 ls (.int z :: [])) (show ((nI w) - (nI w) / (nI u) * (nI u) : Int32) = nI (w % u) from (n_rem rfl rfl (by omega) (by omega) (by omega)))) ?_
    refine lv_istore (lv' := [(4, .int (nI (w % u))), (3, .int (nI u)), (2, .int (nI w)), (0, .int over), (1, .int (nI u))]) hx hb dX6_divisor_20 hl (by decide) rfl (fun ls hl => ?_)
    refine lv_iload_n hx hb dX6_divisor_22 rfl (lv_at hl 1 rfl) ?_
    refine lv_istore_n (lv' := [(2, .int (nI u)), (4, .int (nI (w % u))), (3, .int (nI u)), (0, .int over), (1, .int (nI u))]) hx hb dX6_divisor_23 rfl hl (by decide) rfl (fun ls hl => ?_)
    refine lv_iload hx hb dX6_divisor_24 (lv_at hl 1 rfl) ?_
    refine lv_istore_n (lv' := [(3, .int (nI (w % u))), (2, .int (nI u)), (4, .int (nI (w % u))), (0, .int over), (1, .int (nI u))]) hx hb dX6_divisor_26 rfl hl (by decide) rfl (fun ls hl => ?_)
    refine lv_goto (tgt := 13) hx hb dX6_divisor_27 (by decide) ?_
    have J13 : ∀ (k9 : Nat) (i : Nat), i + k9 = 64 → ∀ (dv : Nat) (rs : Nat), (euI u (w % u) i dv rs) → ∀ (H : Heap) (locs : List Loc) (ls : Array Slot), g_W D A s [] H locs → lv_has ls 5 [(0, .int over), (1, .int (nI u)), (2, .int (nI dv)), (3, .int (nI rs))] → W p l e R s m args below meth c H locs 0 0 Q (F0 m 13 ls []) := by
      intro k9
      induction k9 with
      | zero =>
        intro i h9 dv rs he H locs ls hw hl
        have h9 : i = 64 := h9
        subst h9
        refine lv_iload_n hx hb dX6_divisor_13 rfl (lv_at hl 3 rfl) ?_
        refine lv_if_eq (tgt := 30) hx hb dX6_divisor_14 (by decide) (fun c_14 => ?_) (fun c_14 => absurd (congrArg nI (eu_64 he (by have := Nat.mod_lt w hu0; omega))) c_14)
        refine lv_iload_n hx hb dX6_divisor_30 rfl (lv_at hl 2 rfl) ?_
        exact g_iret hQ hc hw hr (by exact congrArg (fun z => some (Value.int (nI z))) ((eu_end he (eu_64 he (by have := Nat.mod_lt w hu0; omega))).trans (gcd_1 w u)).symm) rfl dX6_divisor_31
      | succ k9 ih =>
        intro i h9 dv rs he H locs ls hw hl
        have h9b : i < 64 := by omega
        refine lv_iload_n hx hb dX6_divisor_13 rfl (lv_at hl 3 rfl) ?_
        refine lv_if_eq (tgt := 30) hx hb dX6_divisor_14 (by decide) (fun c_14 => ?_) (fun c_14 => ?_)
        · skip
          have hwu := Nat.mod_lt w hu0
          have h14 : rs = 0 := (nI_eq (Nat.lt_of_le_of_lt (eu_le he) (by omega)) (by decide)).mp c_14
          refine lv_iload_n hx hb dX6_divisor_30 rfl (lv_at hl 2 rfl) ?_
          exact g_iret hQ hc hw hr (by exact congrArg (fun z => some (Value.int (nI z))) ((eu_end he h14).trans (gcd_1 w u)).symm) rfl dX6_divisor_31
        · skip
          have h14 : 0 < rs := Nat.pos_of_ne_zero (fun q => c_14 (by rw [q]; rfl))
          have hwu := Nat.mod_lt w hu0
          have hrs31 : rs < 2 ^ 31 := Nat.lt_of_le_of_lt (eu_le he) (by omega)
          have hdv31 : dv < 2 ^ 31 := Nat.lt_of_le_of_lt he.2.2.2.2 (by omega)
          refine lv_iload_n hx hb dX6_divisor_17 rfl (lv_at hl 2 rfl) ?_
          refine lv_iload_n hx hb dX6_divisor_18 rfl (lv_at hl 3 rfl) ?_
          refine lv_irem hx hb dX6_divisor_19 (by first | exact nI_ne0 hu0 hu | exact nI_ne0 h14 (by omega)) ?_
          refine W.eq (congrArg (fun z => F0 m 20 ls (.int z :: [])) (show ((nI dv) - (nI dv) / (nI rs) * (nI rs) : Int32) = nI (dv % rs) from (n_rem rfl rfl (by omega) (by omega) (by omega)))) ?_
          refine lv_istore (lv' := [(4, .int (nI (dv % rs))), (0, .int over), (1, .int (nI u)), (2, .int (nI dv)), (3, .int (nI rs))]) hx hb dX6_divisor_20 hl (by decide) rfl (fun ls hl => ?_)
          refine lv_iload_n hx hb dX6_divisor_22 rfl (lv_at hl 4 rfl) ?_
          refine lv_istore_n (lv' := [(2, .int (nI rs)), (4, .int (nI (dv % rs))), (0, .int over), (1, .int (nI u)), (3, .int (nI rs))]) hx hb dX6_divisor_23 rfl hl (by decide) rfl (fun ls hl => ?_)
          refine lv_iload hx hb dX6_divisor_24 (lv_at hl 1 rfl) ?_
          refine lv_istore_n (lv' := [(3, .int (nI (dv % rs))), (2, .int (nI rs)), (4, .int (nI (dv % rs))), (0, .int over), (1, .int (nI u))]) hx hb dX6_divisor_26 rfl hl (by decide) rfl (fun ls hl => ?_)
          refine lv_goto (tgt := 13) hx hb dX6_divisor_27 (by decide) ?_
          exact ih (i + 1) (by omega) rs (dv % rs) (eu_s he h14) _ _ _ hw (lv_sub hl [3, 4, 1, 0] rfl)
    exact J13 64 0 (by omega) u (w % u) (eu_0 hu0) _ _ _ hw (lv_sub hl [3, 4, 1, 0] rfl)
  refine lv_if_ge (tgt := 9) hx hb dX6_divisor_1 (by decide) (fun c_1 => ?_) (fun c_1 => ?_)
  · skip
    refine lv_iload_n hx hb dX6_divisor_9 rfl (lv_at hl 0 rfl) ?_
    refine W.eq (congrArg (fun z => F0 m 10 ls (.int z :: [])) (show (over : Int32) = nI w by exact (if_pos c_1).symm.trans hab)) ?_
    exact J10   _ _ _ hw (lv_sub hl [0, 1] rfl)
  · skip
    refine lv_iload_n hx hb dX6_divisor_4 rfl (lv_at hl 0 rfl) ?_
    refine lv_ineg hx hb dX6_divisor_5 ?_
    refine lv_goto (tgt := 10) hx hb dX6_divisor_6 (by decide) ?_
    refine W.eq (congrArg (fun z => F0 m 10 ls (.int z :: [])) (show (-over : Int32) = nI w by exact (ab_n c_1).trans hab)) ?_
    exact J10   _ _ _ hw (lv_sub hl [0, 1] rfl)

theorem dX6_fraction_0 : decode cX6_fraction 0 = .ok (.iload_n 0, 1) := by decide +kernel
theorem dX6_fraction_1 : decode cX6_fraction 1 = .ok (.iload_n 1, 1) := by decide +kernel
theorem dX6_fraction_2 : decode cX6_fraction 2 = .ok (.invokestatic 275, 3) := by decide +kernel
theorem dX6_fraction_5 : decode cX6_fraction 5 = .ok (.istore_n 3, 1) := by decide +kernel
theorem dX6_fraction_6 : decode cX6_fraction 6 = .ok (.iload_n 2, 1) := by decide +kernel
theorem dX6_fraction_7 : decode cX6_fraction 7 = .ok (.ifCond .eq 9, 3) := by decide +kernel
theorem dX6_fraction_10 : decode cX6_fraction 10 = .ok (.iload_n 0, 1) := by decide +kernel
theorem dX6_fraction_11 : decode cX6_fraction 11 = .ok (.iload_n 3, 1) := by decide +kernel
theorem dX6_fraction_12 : decode cX6_fraction 12 = .ok (.idiv, 1) := by decide +kernel
theorem dX6_fraction_13 : decode cX6_fraction 13 = .ok (.goto 6, 3) := by decide +kernel
theorem dX6_fraction_16 : decode cX6_fraction 16 = .ok (.iload_n 1, 1) := by decide +kernel
theorem dX6_fraction_17 : decode cX6_fraction 17 = .ok (.iload_n 3, 1) := by decide +kernel
theorem dX6_fraction_18 : decode cX6_fraction 18 = .ok (.idiv, 1) := by decide +kernel
theorem dX6_fraction_19 : decode cX6_fraction 19 = .ok (.ireturn, 1) := by decide +kernel
set_option maxRecDepth 20000 in
theorem ggX6_fraction_X6_divisor : GoodIn wsX6_fraction wsX6_divisor := goodIn_r _ [4] rfl (by decide +kernel)
set_option maxRecDepth 20000 in
theorem gX6_fraction_X6_divisor : GoodIn wsX6_fraction (va_wsS RX6 275 yX6_divisor wsX6_divisor) := goodIn_app (goodIn_of _ (by decide +kernel)) ggX6_fraction_X6_divisor
set_option maxRecDepth 100000 in
set_option maxHeartbeats 4000000 in
theorem m_X6_fraction {l : Launch} {D : va_G} {E : Nat → ClassId} {T : Nat → Nat} (over : Int32) (u : Nat) (w : Nat) (up : Bool) (hab : (if 0 ≤ over then over else 0 - over) = nI w) (hw9 : w < 2 ^ 31) (hu0 : 0 < u) (hu : u < 2 ^ 31) : g_M l D E T yX6_fraction wsX6_fraction 1 24 [.int over, .int (nI u), .int (b2i up)] [] [] (some (.int (frF over u w up))) := by
  have hgp : 0 < Nat.gcd w u := Nat.gcd_pos_of_pos_right _ hu0
  have hgl : Nat.gcd w u ≤ u := Nat.le_of_dvd hu0 (Nat.gcd_dvd_right w u)
  refine g_M.of (cc := cX6_fraction) (nL := 4) (ret := (some .int)) (own := RX6) (lv := [(0, .int over), (1, .int (nI u)), (2, .int (b2i up))]) (by decide) rfl rfl (Nat.le_of_ble_eq_true rfl) rfl ?_
  intro p e R s m args below meth c A Q H locs ls hR hQ hc hr hw hl
  have hx := hc.1
  have hb := hc.2.1
  have hts := hc.2.2.2.1
  have hown := hc.2.2.2.2.1
  refine lv_iload_n hx hb dX6_fraction_0 rfl (lv_at hl 0 rfl) ?_
  refine lv_iload_n hx hb dX6_fraction_1 rfl (lv_at hl 1 rfl) ?_
  refine g_cS (As := [.int over, .int (nI u)]) (n := 2) (rest := []) (wc := []) (w1 := []) (bytes := cX6_divisor) (maxL := 5) (ret := (some .int)) hc hw hl.1 (m_X6_divisor (l := l) (D := D) (E := E) (T := T) over u w hab (by first | assumption | omega | decide) (by first | assumption | omega | decide) (by first | assumption | omega | decide)) gX6_fraction_X6_divisor rfl (by decide +kernel) (by rw [hR]; exact ⟨Nat.le_of_ble_eq_true rfl, Nat.le_of_ble_eq_true rfl⟩) [] (by decide) rfl [] rfl rfl rfl rfl (Nat.le_of_ble_eq_true rfl) dX6_fraction_2 ⟨Nat.zero_le _, Nat.zero_le _⟩ (fun H locs hw => ?_)
  have hw : g_W D A s [] H locs := hw
  refine lv_istore_n (lv' := [(3, .int (nI (Nat.gcd w u))), (0, .int over), (1, .int (nI u)), (2, .int (b2i up))]) hx hb dX6_fraction_5 rfl hl (by decide) rfl (fun ls hl => ?_)
  refine lv_iload_n hx hb dX6_fraction_6 rfl (lv_at hl 3 rfl) ?_
  refine lv_if_eq (tgt := 16) hx hb dX6_fraction_7 (by decide) (fun c_7 => ?_) (fun c_7 => ?_)
  · skip
    have k_7 := b2i_eq c_7
    refine lv_iload_n hx hb dX6_fraction_16 rfl (lv_at hl 2 rfl) ?_
    refine lv_iload_n hx hb dX6_fraction_17 rfl (lv_at hl 0 rfl) ?_
    refine lv_idiv hx hb dX6_fraction_18 (nI_ne0 hgp (by omega)) ?_
    exact g_iret hQ hc hw hr (by exact congrArg (fun z => some (Value.int z)) (by rw [show up = false from b2i_eq c_7]; rfl)) rfl dX6_fraction_19
  · skip
    have k_7 := b2i_ne c_7
    refine lv_iload_n hx hb dX6_fraction_10 rfl (lv_at hl 1 rfl) ?_
    refine lv_iload_n hx hb dX6_fraction_11 rfl (lv_at hl 0 rfl) ?_
    refine lv_idiv hx hb dX6_fraction_12 (nI_ne0 hgp (by omega)) ?_
    refine lv_goto (tgt := 19) hx hb dX6_fraction_13 (by decide) ?_
    exact g_iret hQ hc hw hr (by exact congrArg (fun z => some (Value.int z)) (by rw [show up = true from b2i_ne c_7]; rfl)) rfl dX6_fraction_19

theorem dX6_killOn_0 : decode cX6_killOn 0 = .ok (.aload_n 0, 1) := by decide +kernel
theorem dX6_killOn_1 : decode cX6_killOn 1 = .ok (.iconst 0, 1) := by decide +kernel
theorem dX6_killOn_2 : decode cX6_killOn 2 = .ok (.dup2, 1) := by decide +kernel
theorem dX6_killOn_3 : decode cX6_killOn 3 = .ok (.iaload, 1) := by decide +kernel
theorem dX6_killOn_4 : decode cX6_killOn 4 = .ok (.iconst 1, 1) := by decide +kernel
theorem dX6_killOn_5 : decode cX6_killOn 5 = .ok (.iload_n 1, 1) := by decide +kernel
theorem dX6_killOn_6 : decode cX6_killOn 6 = .ok (.ishl, 1) := by decide +kernel
theorem dX6_killOn_7 : decode cX6_killOn 7 = .ok (.ior, 1) := by decide +kernel
theorem dX6_killOn_8 : decode cX6_killOn 8 = .ok (.iastore, 1) := by decide +kernel
theorem dX6_killOn_9 : decode cX6_killOn 9 = .ok (.aload_n 0, 1) := by decide +kernel
theorem dX6_killOn_10 : decode cX6_killOn 10 = .ok (.iconst 1, 1) := by decide +kernel
theorem dX6_killOn_11 : decode cX6_killOn 11 = .ok (.aload_n 0, 1) := by decide +kernel
theorem dX6_killOn_12 : decode cX6_killOn 12 = .ok (.iconst 0, 1) := by decide +kernel
theorem dX6_killOn_13 : decode cX6_killOn 13 = .ok (.iaload, 1) := by decide +kernel
theorem dX6_killOn_14 : decode cX6_killOn 14 = .ok (.invokestatic 202, 3) := by decide +kernel
theorem dX6_killOn_17 : decode cX6_killOn 17 = .ok (.iconst 1, 1) := by decide +kernel
theorem dX6_killOn_18 : decode cX6_killOn 18 = .ok (.if_icmp .le 7, 3) := by decide +kernel
theorem dX6_killOn_21 : decode cX6_killOn 21 = .ok (.iconst 1, 1) := by decide +kernel
theorem dX6_killOn_22 : decode cX6_killOn 22 = .ok (.goto 6, 3) := by decide +kernel
theorem dX6_killOn_25 : decode cX6_killOn 25 = .ok (.aload_n 0, 1) := by decide +kernel
theorem dX6_killOn_26 : decode cX6_killOn 26 = .ok (.iconst 1, 1) := by decide +kernel
theorem dX6_killOn_27 : decode cX6_killOn 27 = .ok (.iaload, 1) := by decide +kernel
theorem dX6_killOn_28 : decode cX6_killOn 28 = .ok (.iastore, 1) := by decide +kernel
theorem dX6_killOn_29 : decode cX6_killOn 29 = .ok (.return_, 1) := by decide +kernel
set_option maxRecDepth 20000 in
theorem ggX6_killOn_X6_ones : GoodIn wsX6_killOn wsX6_ones := goodIn_r _ [4] rfl (by decide +kernel)
set_option maxRecDepth 20000 in
theorem gX6_killOn_X6_ones : GoodIn wsX6_killOn (va_wsS RX6 202 yX6_ones wsX6_ones) := goodIn_app (goodIn_of _ (by decide +kernel)) ggX6_killOn_X6_ones
set_option maxRecDepth 100000 in
set_option maxHeartbeats 4000000 in
theorem m_X6_killOn {l : Launch} {D : va_G} {E : Nat → ClassId} {T : Nat → Nat} (pp : Nat) (i : Nat) (S : TS) (hd : sD S < 16) (hi : i < 4) : g_M l D E T yX6_killOn wsX6_killOn 1 22 [.ref pp, .int (nI i)] [(pp, .inl (E 0, 29, .inl (pgF S)))] [(pp, .inl (E 0, 29, .inl (pgF (skS S i))))] none := by
  have hdi := dIn_lt _ hd _ hi
  have hpc := pcn_lt _ hdi
  refine g_M.of (cc := cX6_killOn) (nL := 2) (ret := none) (own := RX6) (lv := [(0, .ref pp), (1, .int (nI i))]) (by decide) rfl rfl (Nat.le_of_ble_eq_true rfl) rfl ?_
  intro p e R s m args below meth c A Q H locs ls hR hQ hc hr hw hl
  have hx := hc.1
  have hb := hc.2.1
  have hts := hc.2.2.2.1
  have hown := hc.2.2.2.2.1
  refine lv_aload_n hx hb dX6_killOn_0 rfl (lv_at hl 0 rfl) ?_
  refine lv_iconst (v := 0) hx hb dX6_killOn_1 (by decide) ?_
  refine lv_dup2_11 hx hb dX6_killOn_2 rfl rfl ?_
  refine g_ild hc hw 0 0 rfl rfl (by omega) (by decide) dX6_killOn_3 ?_
  refine W.eq (congrArg (fun z => F0 m 4 ls (.int z :: [.int 0, .ref pp])) (show ((pgF S) 0 : Int32) = nI (sD S) from rfl)) ?_
  refine lv_iconst (v := 1) hx hb dX6_killOn_4 (by decide) ?_
  refine lv_iload_n hx hb dX6_killOn_5 rfl (lv_at hl 1 rfl) ?_
  refine lv_ishl hx hb dX6_killOn_6 ?_
  refine lv_ior hx hb dX6_killOn_7 ?_
  refine W.eq (congrArg (fun z => F0 m 8 ls (.int z :: [.int 0, .ref pp])) (show ((nI (sD S)) ||| ((1 : Int32) <<< ((nI i) &&& 31)) : Int32) = nI (dIn (sD S) i) from (g_in16 _ hd _ hi))) ?_
  refine g_ist hc hw 0 0 rfl rfl (by omega) (by decide) dX6_killOn_8 (fun H locs hw => ?_)
  have hw : g_W D A s [(pp, .inl (E 0, 29, .inl (upd (pgF S) 0 (nI (dIn (sD S) i)))))] H locs := hw
  rw [pg_D] at hw
  have hw : g_W D A s [(pp, .inl (E 0, 29, .inl (pgF (wD S (dIn (sD S) i)))))] H locs := hw
  refine lv_aload_n hx hb dX6_killOn_9 rfl (lv_at hl 0 rfl) ?_
  refine lv_iconst (v := 1) hx hb dX6_killOn_10 (by decide) ?_
  refine lv_aload_n hx hb dX6_killOn_11 rfl (lv_at hl 0 rfl) ?_
  refine lv_iconst (v := 0) hx hb dX6_killOn_12 (by decide) ?_
  refine g_ild hc hw 0 0 rfl rfl (by omega) (by decide) dX6_killOn_13 ?_
  refine W.eq (congrArg (fun z => F0 m 14 ls (.int z :: [.int 1, .ref pp])) (show ((pgF (wD S (dIn (sD S) i))) 0 : Int32) = nI (sD (wD S (dIn (sD S) i))) from rfl)) ?_
  refine g_cS (As := [.int (nI (sD (wD S (dIn (sD S) i))))]) (n := 1) (rest := [.int 1, .ref pp]) (wc := []) (w1 := []) (bytes := cX6_ones) (maxL := 3) (ret := (some .int)) hc hw hl.1 (m_X6_ones (l := l) (D := D) (E := E) (T := T) (sD (wD S (dIn (sD S) i))) (dIn_lt _ hd _ hi)) gX6_killOn_X6_ones rfl (by decide +kernel) (by rw [hR]; exact ⟨Nat.le_of_ble_eq_true rfl, Nat.le_of_ble_eq_true rfl⟩) [] (by decide) rfl [] rfl rfl rfl rfl (Nat.le_of_ble_eq_true rfl) dX6_killOn_14 ⟨Nat.zero_le _, Nat.zero_le _⟩ (fun H locs hw => ?_)
  have hw : g_W D A s [(pp, .inl (E 0, 29, .inl (pgF (wD S (dIn (sD S) i)))))] H locs := hw
  refine lv_iconst (v := 1) hx hb dX6_killOn_17 (by decide) ?_
  refine lv_icmp_le (tgt := 25) hx hb dX6_killOn_18 (by decide) (fun c_18 => ?_) (fun c_18 => ?_)
  · skip
    have n_18 : ¬ 1 < pcn (dIn (sD S) i) := g_gtF hpc (Int32.not_lt.mpr c_18)
    refine lv_aload_n hx hb dX6_killOn_25 rfl (lv_at hl 0 rfl) ?_
    refine lv_iconst (v := 1) hx hb dX6_killOn_26 (by decide) ?_
    refine g_ild hc hw 0 1 rfl rfl (by omega) (by decide) dX6_killOn_27 ?_
    refine W.eq (congrArg (fun z => F0 m 28 ls (.int z :: [.int 1, .ref pp])) (show ((pgF (wD S (dIn (sD S) i))) 1 : Int32) = sM (wD S (dIn (sD S) i)) from rfl)) ?_
    refine g_ist hc hw 0 1 rfl rfl (by omega) (by decide) dX6_killOn_28 (fun H locs hw => ?_)
    have hw : g_W D A s [(pp, .inl (E 0, 29, .inl (upd (pgF (wD S (dIn (sD S) i))) 1 (sM (wD S (dIn (sD S) i))))))] H locs := hw
    rw [pg_M] at hw
    have hw : g_W D A s [(pp, .inl (E 0, 29, .inl (pgF (wM (wD S (dIn (sD S) i)) (sM (wD S (dIn (sD S) i)))))))] H locs := hw
    exact g_vret hQ hc hw hr rfl (by rw [sk_0 n_18]) dX6_killOn_29
  · skip
    have n_18 : 1 < pcn (dIn (sD S) i) := g_gtT hpc (Int32.not_le.mp c_18)
    refine lv_iconst (v := 1) hx hb dX6_killOn_21 (by decide) ?_
    refine lv_goto (tgt := 28) hx hb dX6_killOn_22 (by decide) ?_
    refine g_ist hc hw 0 1 rfl rfl (by omega) (by decide) dX6_killOn_28 (fun H locs hw => ?_)
    have hw : g_W D A s [(pp, .inl (E 0, 29, .inl (upd (pgF (wD S (dIn (sD S) i))) 1 1)))] H locs := hw
    rw [pg_M] at hw
    have hw : g_W D A s [(pp, .inl (E 0, 29, .inl (pgF (wM (wD S (dIn (sD S) i)) 1))))] H locs := hw
    exact g_vret hQ hc hw hr rfl (by rw [sk_1 n_18]) dX6_killOn_29

theorem dX6_planNow_0 : decode cX6_planNow 0 = .ok (.aload_n 0, 1) := by decide +kernel
theorem dX6_planNow_1 : decode cX6_planNow 1 = .ok (.aload_n 0, 1) := by decide +kernel
theorem dX6_planNow_2 : decode cX6_planNow 2 = .ok (.getfield 25, 3) := by decide +kernel
theorem dX6_planNow_5 : decode cX6_planNow 5 = .ok (.iconst 0, 1) := by decide +kernel
theorem dX6_planNow_6 : decode cX6_planNow 6 = .ok (.iconst 0, 1) := by decide +kernel
theorem dX6_planNow_7 : decode cX6_planNow 7 = .ok (.iconst 0, 1) := by decide +kernel
theorem dX6_planNow_8 : decode cX6_planNow 8 = .ok (.invokevirtual 194, 3) := by decide +kernel
theorem dX6_planNow_11 : decode cX6_planNow 11 = .ok (.aload_n 0, 1) := by decide +kernel
theorem dX6_planNow_12 : decode cX6_planNow 12 = .ok (.aload_n 0, 1) := by decide +kernel
theorem dX6_planNow_13 : decode cX6_planNow 13 = .ok (.getfield 25, 3) := by decide +kernel
theorem dX6_planNow_16 : decode cX6_planNow 16 = .ok (.aload_n 0, 1) := by decide +kernel
theorem dX6_planNow_17 : decode cX6_planNow 17 = .ok (.getfield 28, 3) := by decide +kernel
theorem dX6_planNow_20 : decode cX6_planNow 20 = .ok (.invokevirtual 180, 3) := by decide +kernel
theorem dX6_planNow_23 : decode cX6_planNow 23 = .ok (.return_, 1) := by decide +kernel
set_option maxRecDepth 20000 in
theorem ggX6_planNow_X6_layWant : GoodIn wsX6_planNow wsX6_layWant := goodIn_r _ [7, 8, 9, 51, 52, 53, 54, 55, 56, 57, 58, 59, 60, 61, 62, 63, 64, 65, 66, 67, 68, 69, 70, 71, 72, 73, 74, 75, 76, 77, 78, 79, 80, 81, 82, 83, 84, 85, 86] rfl (by decide +kernel)
set_option maxRecDepth 20000 in
theorem gX6_planNow_X6_layWant : GoodIn wsX6_planNow (wsV RX6 194 RX6 yX6_layWant wsX6_layWant) := goodIn_app (goodIn_of _ (by decide +kernel)) ggX6_planNow_X6_layWant
set_option maxRecDepth 20000 in
theorem ggX6_planNow_X6_layPlan : GoodIn wsX6_planNow wsX6_layPlan := goodIn_r _ [13, 14, 15, 16, 17, 18, 19, 20, 21, 22, 6, 23, 24, 25, 26, 27, 28, 29, 30, 31, 32, 33, 34, 8, 35, 36, 37, 38, 39, 40, 41, 42, 43, 44, 45, 46, 47, 48, 49, 50, 51, 52, 53, 54, 55, 56, 57, 58, 59, 60, 61, 62, 63, 64, 65, 66, 67, 68, 69, 70, 71, 72, 73, 74, 75, 76, 77, 78, 79, 80, 81, 82, 83, 84, 85, 86] rfl (by decide +kernel)
set_option maxRecDepth 20000 in
theorem gX6_planNow_X6_layPlan : GoodIn wsX6_planNow (wsV RX6 180 RX6 yX6_layPlan wsX6_layPlan) := goodIn_app (goodIn_of _ (by decide +kernel)) ggX6_planNow_X6_layPlan
theorem inX6_planNow_X6 : ∀ w ∈ u_ws RX6 TX6 36, w ∈ wsX6_planNow := fun w h => List.mem_cons_of_mem _ (List.mem_append_right _ h)
set_option maxRecDepth 100000 in
set_option maxHeartbeats 4000000 in
theorem m_X6_planNow {l : Launch} {D : va_G} {E : Nat → ClassId} {T : Nat → Nat} (o : Nat) (xa : Nat) (fa : Nat) (wa : Nat) (la : Nat) (ta : Nat) (ma : Nat) (sa : Nat) (nw : Nat) (nf : Nat) (pa : Nat) (va : Nat) (B : Nat) (u0 : Value) (u1 : Value) (u2 : Value) (u7 : Value) (u8 : Value) (u9 : Value) (u10 : Value) (u13 : Value) (u14 : Value) (u15 : Value) (u16 : Value) (u17 : Value) (u18 : Value) (u19 : Value) (u20 : Value) (u21 : Value) (u22 : Value) (u23 : Value) (u24 : Value) (u25 : Value) (u26 : Value) (u34 : Value) (fl : Nat → Int32) (S : TS) (K : RJ) (hok : OkS B S) (hB : B < 2 ^ 31) (hnw : nw ≤ 6) (hnf : nf ≤ 6) (hp : pcn (sD S) ≤ 1) : g_M l D E T yX6_planNow wsX6_planNow 4 100 [.ref o] [(o, .inr (6, [u0, u1, u2, .ref xa, .int (nI nw), .int (nI nf), .ref fa, u7, u8, u9, u10, .ref pa, .ref va, u13, u14, u15, u16, u17, u18, u19, u20, u21, u22, u23, u24, u25, u26, .ref wa, .ref la, .ref ta, .int (rS K), .int (rN K), .float (rH K), .ref ma, u34, .ref sa])), (xa, .inl (E 0, 12, .inl (g_tv 0))), (fa, .inl (E 0, 18, .inl fl)), (wa, .inl (E 0, 3, .inl (rW K))), (la, .inl (E 1, 4, .inr (.inr (.inl (rP K))))), (ta, .inl (E 1, 4, .inr (.inr (.inl (rT K))))), (ma, .inl (E 1, 3, .inr (.inr (.inl (rM K))))), (sa, .inl (E 0, 9, .inl (g_tv 1))), (pa, .inl (E 0, 29, .inl (pgF S))), (va, .inl (E 1, 5, .inr (.inr (.inl (fl5 S)))))] [(o, .inr (6, [u0, u1, u2, .ref xa, .int (nI nw), .int (nI nf), .ref fa, u7, u8, u9, u10, .ref pa, .ref va, u13, u14, u15, u16, u17, u18, u19, u20, u21, u22, u23, u24, u25, u26, .ref wa, .ref la, .ref ta, .int (rS (pnK nw S K)), .int (rN (pnK nw S K)), .float (rH (pnK nw S K)), .ref ma, u34, .ref sa])), (xa, .inl (E 0, 12, .inl (g_tv 0))), (fa, .inl (E 0, 18, .inl fl)), (wa, .inl (E 0, 3, .inl (rW (pnK nw S K)))), (la, .inl (E 1, 4, .inr (.inr (.inl (rP (pnK nw S K)))))), (ta, .inl (E 1, 4, .inr (.inr (.inl (rT (pnK nw S K)))))), (ma, .inl (E 1, 3, .inr (.inr (.inl (rM (pnK nw S K)))))), (sa, .inl (E 0, 9, .inl (g_tv 1))), (pa, .inl (E 0, 29, .inl (pgF S))), (va, .inl (E 1, 5, .inr (.inr (.inl (fl5 S)))))] none := by
  have hk31 : sK S < 2 ^ 31 := Nat.lt_of_le_of_lt hok.k hB
  refine g_M.of (cc := cX6_planNow) (nL := 1) (ret := none) (own := RX6) (lv := [(0, .ref o)]) (by decide) rfl rfl (Nat.le_of_ble_eq_true rfl) rfl ?_
  intro p e R s m args below meth c A Q H locs ls hR hQ hc hr hw hl
  have hx := hc.1
  have hb := hc.2.1
  have hts := hc.2.2.2.1
  have hown := hc.2.2.2.2.1
  refine lv_aload_n hx hb dX6_planNow_0 rfl (lv_at hl 0 rfl) ?_
  refine lv_aload_n hx hb dX6_planNow_1 rfl (lv_at hl 0 rfl) ?_
  refine g_get (TT := TX6) hc hw inX6_planNow_X6 0 11 1 rfl rfl (by decide) rfl rfl dX6_planNow_2 ?_
  refine lv_iconst (v := 0) hx hb dX6_planNow_5 (by decide) ?_
  refine lv_iconst (v := 0) hx hb dX6_planNow_6 (by decide) ?_
  refine lv_iconst (v := 0) hx hb dX6_planNow_7 (by decide) ?_
  refine g_cV (As := [.ref pa, .int 0, .int 0, .int 0]) (n := 4) (rest := []) (wc := [(o, .inr (6, [u0, u1, u2, .ref xa, .int (nI nw), .int (nI nf), .ref fa, u7, u8, u9, u10, .ref pa, .ref va, u13, u14, u15, u16, u17, u18, u19, u20, u21, u22, u23, u24, u25, u26, .ref wa, .ref la, .ref ta, .int (rS K), .int (rN K), .float (rH K), .ref ma, u34, .ref sa])), (pa, .inl (E 0, 29, .inl (pgF S))), (wa, .inl (E 0, 3, .inl (rW K)))]) (w1 := [(o, .inr (6, [u0, u1, u2, .ref xa, .int (nI nw), .int (nI nf), .ref fa, u7, u8, u9, u10, .ref pa, .ref va, u13, u14, u15, u16, u17, u18, u19, u20, u21, u22, u23, u24, u25, u26, .ref wa, .ref la, .ref ta, .int (rS K), .int (rN K), .float (rH K), .ref ma, u34, .ref sa])), (pa, .inl (E 0, 29, .inl (pgF S))), (wa, .inl (E 0, 3, .inl (wnF nw (x3F 0 0 0) S)))]) (bytes := cX6_layWant) (maxL := 6) (ret := none) hc hw hl.1 (m_X6_layWant (l := l) (D := D) (E := E) (T := T) o pa nw wa u0 u1 u2 (.ref xa) (.int (nI nf)) (.ref fa) u7 u8 u9 u10 (.ref pa) (.ref va) u13 u14 u15 u16 u17 u18 u19 u20 u21 u22 u23 u24 u25 u26 (.ref la) (.ref ta) (.int (rS K)) (.int (rN K)) (.float (rH K)) (.ref ma) u34 (.ref sa) S (rW K) 0 0 0 hnw hk31) gX6_planNow_X6_layWant rfl (by decide +kernel) (by rw [hR]; exact ⟨Nat.le_of_ble_eq_true rfl, Nat.le_of_ble_eq_true rfl⟩) [0, 8, 3] 0 6 rfl rfl (by decide) rfl [o, pa, wa] rfl rfl rfl rfl (Nat.le_of_ble_eq_true rfl) dX6_planNow_8 ⟨Nat.zero_le _, Nat.zero_le _⟩ (fun H locs hw => ?_)
  have hw : g_W D A s [(o, .inr (6, [u0, u1, u2, .ref xa, .int (nI nw), .int (nI nf), .ref fa, u7, u8, u9, u10, .ref pa, .ref va, u13, u14, u15, u16, u17, u18, u19, u20, u21, u22, u23, u24, u25, u26, .ref wa, .ref la, .ref ta, .int (rS K), .int (rN K), .float (rH K), .ref ma, u34, .ref sa])), (xa, .inl (E 0, 12, .inl (g_tv 0))), (fa, .inl (E 0, 18, .inl fl)), (wa, .inl (E 0, 3, .inl (wnF nw (x3F 0 0 0) S))), (la, .inl (E 1, 4, .inr (.inr (.inl (rP K))))), (ta, .inl (E 1, 4, .inr (.inr (.inl (rT K))))), (ma, .inl (E 1, 3, .inr (.inr (.inl (rM K))))), (sa, .inl (E 0, 9, .inl (g_tv 1))), (pa, .inl (E 0, 29, .inl (pgF S))), (va, .inl (E 1, 5, .inr (.inr (.inl (fl5 S)))))] H locs := hw
  refine lv_aload_n hx hb dX6_planNow_11 rfl (lv_at hl 0 rfl) ?_
  refine lv_aload_n hx hb dX6_planNow_12 rfl (lv_at hl 0 rfl) ?_
  refine g_get (TT := TX6) hc hw inX6_planNow_X6 0 11 1 rfl rfl (by decide) rfl rfl dX6_planNow_13 ?_
  refine lv_aload_n hx hb dX6_planNow_16 rfl (lv_at hl 0 rfl) ?_
  refine g_get (TT := TX6) hc hw inX6_planNow_X6 0 12 2 rfl rfl (by decide) rfl rfl dX6_planNow_17 ?_
  refine g_cV (As := [.ref pa, .ref va]) (n := 2) (rest := []) (wc := [(o, .inr (6, [u0, u1, u2, .ref xa, .int (nI nw), .int (nI nf), .ref fa, u7, u8, u9, u10, .ref pa, .ref va, u13, u14, u15, u16, u17, u18, u19, u20, u21, u22, u23, u24, u25, u26, .ref wa, .ref la, .ref ta, .int (rS K), .int (rN K), .float (rH K), .ref ma, u34, .ref sa])), (xa, .inl (E 0, 12, .inl (g_tv 0))), (wa, .inl (E 0, 3, .inl (wnF nw (x3F 0 0 0) S))), (la, .inl (E 1, 4, .inr (.inr (.inl (rP K))))), (ta, .inl (E 1, 4, .inr (.inr (.inl (rT K))))), (sa, .inl (E 0, 9, .inl (g_tv 1))), (pa, .inl (E 0, 29, .inl (pgF S))), (va, .inl (E 1, 5, .inr (.inr (.inl (fl5 S)))))]) (w1 := [(o, .inr (6, [u0, u1, u2, .ref xa, .int (nI nw), .int (nI nf), .ref fa, u7, u8, u9, u10, .ref pa, .ref va, u13, u14, u15, u16, u17, u18, u19, u20, u21, u22, u23, u24, u25, u26, .ref wa, .ref la, .ref ta, .int (cS nw (x3F 0 0 0) S), .int (neF (sD S) (FP.i2f (sT S 1)) (aiF (sF S) (eS nw (x3F 0 0 0) S) (cS nw (x3F 0 0 0) S)) 4), .float (heF (sD S) (aiF (sF S) (eS nw (x3F 0 0 0) S) (cS nw (x3F 0 0 0) S)) 4), .ref ma, u34, .ref sa])), (xa, .inl (E 0, 12, .inl (g_tv 0))), (wa, .inl (E 0, 3, .inl (wnF nw (x3F 0 0 0) S))), (la, .inl (E 1, 4, .inr (.inr (.inl (amP (sD S) (aiF (sF S) (eS nw (x3F 0 0 0) S) (cS nw (x3F 0 0 0) S)) (sF S) 4))))), (ta, .inl (E 1, 4, .inr (.inr (.inl (amP (sD S) (aiF (sF S) (eS nw (x3F 0 0 0) S) (g_tv 1 (lpN (sD S)))) (sF S) 4))))), (sa, .inl (E 0, 9, .inl (g_tv 1))), (pa, .inl (E 0, 29, .inl (pgF S))), (va, .inl (E 1, 5, .inr (.inr (.inl (fl5 S)))))]) (bytes := cX6_layPlan) (maxL := 8) (ret := none) hc hw hl.1 (m_X6_layPlan (l := l) (D := D) (E := E) (T := T) o xa wa la ta sa pa va nw B u0 u1 u2 (.int (nI nw)) (.int (nI nf)) (.ref fa) u7 u8 u9 u10 (.ref pa) (.ref va) u13 u14 u15 u16 u17 u18 u19 u20 u21 u22 u23 u24 u25 u26 (.ref ma) u34 (x3F 0 0 0) S (rP K) (rT K) (rS K) (rN K) (rH K) hok hp) gX6_planNow_X6_layPlan rfl (by decide +kernel) (by rw [hR]; exact ⟨Nat.le_of_ble_eq_true rfl, Nat.le_of_ble_eq_true rfl⟩) [0, 1, 3, 4, 5, 7, 8, 9] 0 6 rfl rfl (by decide) rfl [o, xa, wa, la, ta, sa, pa, va] rfl rfl rfl rfl (Nat.le_of_ble_eq_true rfl) dX6_planNow_20 ⟨Nat.zero_le _, Nat.zero_le _⟩ (fun H locs hw => ?_)
  have hw : g_W D A s [(o, .inr (6, [u0, u1, u2, .ref xa, .int (nI nw), .int (nI nf), .ref fa, u7, u8, u9, u10, .ref pa, .ref va, u13, u14, u15, u16, u17, u18, u19, u20, u21, u22, u23, u24, u25, u26, .ref wa, .ref la, .ref ta, .int (cS nw (x3F 0 0 0) S), .int (neF (sD S) (FP.i2f (sT S 1)) (aiF (sF S) (eS nw (x3F 0 0 0) S) (cS nw (x3F 0 0 0) S)) 4), .float (heF (sD S) (aiF (sF S) (eS nw (x3F 0 0 0) S) (cS nw (x3F 0 0 0) S)) 4), .ref ma, u34, .ref sa])), (xa, .inl (E 0, 12, .inl (g_tv 0))), (fa, .inl (E 0, 18, .inl fl)), (wa, .inl (E 0, 3, .inl (wnF nw (x3F 0 0 0) S))), (la, .inl (E 1, 4, .inr (.inr (.inl (amP (sD S) (aiF (sF S) (eS nw (x3F 0 0 0) S) (cS nw (x3F 0 0 0) S)) (sF S) 4))))), (ta, .inl (E 1, 4, .inr (.inr (.inl (amP (sD S) (aiF (sF S) (eS nw (x3F 0 0 0) S) (g_tv 1 (lpN (sD S)))) (sF S) 4))))), (ma, .inl (E 1, 3, .inr (.inr (.inl (rM K))))), (sa, .inl (E 0, 9, .inl (g_tv 1))), (pa, .inl (E 0, 29, .inl (pgF S))), (va, .inl (E 1, 5, .inr (.inr (.inl (fl5 S)))))] H locs := hw
  exact g_vret hQ hc hw hr rfl rfl dX6_planNow_23

theorem dX6_tryTicks_0 : decode cX6_tryTicks 0 = .ok (.aload_n 0, 1) := by decide +kernel
theorem dX6_tryTicks_1 : decode cX6_tryTicks 1 = .ok (.invokevirtual 248, 3) := by decide +kernel
theorem dX6_tryTicks_4 : decode cX6_tryTicks 4 = .ok (.aload_n 0, 1) := by decide +kernel
theorem dX6_tryTicks_5 : decode cX6_tryTicks 5 = .ok (.aload_n 0, 1) := by decide +kernel
theorem dX6_tryTicks_6 : decode cX6_tryTicks 6 = .ok (.getfield 32, 3) := by decide +kernel
theorem dX6_tryTicks_9 : decode cX6_tryTicks 9 = .ok (.aload_n 0, 1) := by decide +kernel
theorem dX6_tryTicks_10 : decode cX6_tryTicks 10 = .ok (.getfield 35, 3) := by decide +kernel
theorem dX6_tryTicks_13 : decode cX6_tryTicks 13 = .ok (.iload_n 1, 1) := by decide +kernel
theorem dX6_tryTicks_14 : decode cX6_tryTicks 14 = .ok (.invokevirtual 234, 3) := by decide +kernel
theorem dX6_tryTicks_17 : decode cX6_tryTicks 17 = .ok (.return_, 1) := by decide +kernel
set_option maxRecDepth 20000 in
theorem ggX6_tryTicks_X6_layTrial : GoodIn wsX6_tryTicks wsX6_layTrial := goodIn_r _ [7, 1, 8, 2, 9, 89, 90, 91, 92, 93, 94, 95, 96, 97, 98, 99, 100, 101, 102, 103, 104, 105, 106, 107, 108, 109, 110, 111, 112, 113, 114, 115, 116, 117, 118, 119, 120, 121, 122, 123, 124] rfl (by decide +kernel)
set_option maxRecDepth 20000 in
theorem gX6_tryTicks_X6_layTrial : GoodIn wsX6_tryTicks (wsV RX6 248 RX6 yX6_layTrial wsX6_layTrial) := goodIn_app (goodIn_of _ (by decide +kernel)) ggX6_tryTicks_X6_layTrial
set_option maxRecDepth 20000 in
theorem ggX6_tryTicks_X6_tickMany : GoodIn wsX6_tryTicks wsX6_tickMany := goodIn_r _ [13, 14, 15, 16, 6, 17, 18, 19, 20, 21, 22, 23, 24, 25, 26, 27, 28, 29, 30, 31, 32, 33, 34, 35, 36, 37, 38, 39, 40, 41, 42, 43, 44, 45, 46, 47, 48, 49, 50, 51, 52, 53, 54, 55, 56, 57, 58, 59, 60, 61, 62, 63, 64, 65, 66, 67, 68, 69, 70, 71, 72, 73, 74, 75, 76, 77, 78, 79, 80, 81, 82, 83, 84, 85, 86, 87, 88, 89, 90, 91, 92, 93, 94, 95, 96, 97, 98, 99, 100, 101, 102, 103, 104, 105, 106, 107, 108, 109, 110, 111, 112, 113, 114, 115, 116, 117, 118, 119, 120, 121, 122, 123, 124] rfl (by decide +kernel)
set_option maxRecDepth 20000 in
theorem gX6_tryTicks_X6_tickMany : GoodIn wsX6_tryTicks (wsV RX6 234 RX6 yX6_tickMany wsX6_tickMany) := goodIn_app (goodIn_of _ (by decide +kernel)) ggX6_tryTicks_X6_tickMany
theorem inX6_tryTicks_X6 : ∀ w ∈ u_ws RX6 TX6 36, w ∈ wsX6_tryTicks := fun w h => List.mem_cons_of_mem _ (List.mem_append_right _ h)
set_option maxRecDepth 100000 in
set_option maxHeartbeats 4000000 in
theorem m_X6_tryTicks {l : Launch} {D : va_G} {E : Nat → ClassId} {T : Nat → Nat} (o : Nat) (xa : Nat) (fa : Nat) (wa : Nat) (la : Nat) (ta : Nat) (ma : Nat) (sa : Nat) (nw : Nat) (nf : Nat) (pa : Nat) (va : Nat) (ua : Nat) (ya : Nat) (B : Nat) (u0 : Value) (u1 : Value) (u2 : Value) (u7 : Value) (u8 : Value) (u9 : Value) (u10 : Value) (u15 : Value) (u16 : Value) (u17 : Value) (u18 : Value) (u19 : Value) (u20 : Value) (u21 : Value) (u22 : Value) (u23 : Value) (u24 : Value) (u25 : Value) (u26 : Value) (u34 : Value) (fl : Nat → Int32) (S : TS) (U : TS) (K : RJ) (n : Nat) (hok : OkS B S) (hB : B + n < 2 ^ 31) (hnw : nw ≤ 6) (hnf : nf ≤ 6) : g_M l D E T yX6_tryTicks wsX6_tryTicks 7 173 [.ref o, .int (nI n)] [(o, .inr (6, [u0, u1, u2, .ref xa, .int (nI nw), .int (nI nf), .ref fa, u7, u8, u9, u10, .ref pa, .ref va, .ref ua, .ref ya, u15, u16, u17, u18, u19, u20, u21, u22, u23, u24, u25, u26, .ref wa, .ref la, .ref ta, .int (rS K), .int (rN K), .float (rH K), .ref ma, u34, .ref sa])), (xa, .inl (E 0, 12, .inl (g_tv 0))), (fa, .inl (E 0, 18, .inl fl)), (wa, .inl (E 0, 3, .inl (rW K))), (la, .inl (E 1, 4, .inr (.inr (.inl (rP K))))), (ta, .inl (E 1, 4, .inr (.inr (.inl (rT K))))), (ma, .inl (E 1, 3, .inr (.inr (.inl (rM K))))), (sa, .inl (E 0, 9, .inl (g_tv 1))), (pa, .inl (E 0, 29, .inl (pgF S))), (va, .inl (E 1, 5, .inr (.inr (.inl (fl5 S))))), (ua, .inl (E 0, 29, .inl (pgF U))), (ya, .inl (E 1, 5, .inr (.inr (.inl (fl5 U)))))] [(o, .inr (6, [u0, u1, u2, .ref xa, .int (nI nw), .int (nI nf), .ref fa, u7, u8, u9, u10, .ref pa, .ref va, .ref ua, .ref ya, u15, u16, u17, u18, u19, u20, u21, u22, u23, u24, u25, u26, .ref wa, .ref la, .ref ta, .int (rS (rjN nw nf fl (x3F 0 0 0) S K n)), .int (rN (rjN nw nf fl (x3F 0 0 0) S K n)), .float (rH (rjN nw nf fl (x3F 0 0 0) S K n)), .ref ma, u34, .ref sa])), (xa, .inl (E 0, 12, .inl (g_tv 0))), (fa, .inl (E 0, 18, .inl fl)), (wa, .inl (E 0, 3, .inl (rW (rjN nw nf fl (x3F 0 0 0) S K n)))), (la, .inl (E 1, 4, .inr (.inr (.inl (rP (rjN nw nf fl (x3F 0 0 0) S K n)))))), (ta, .inl (E 1, 4, .inr (.inr (.inl (rT (rjN nw nf fl (x3F 0 0 0) S K n)))))), (ma, .inl (E 1, 3, .inr (.inr (.inl (rM (rjN nw nf fl (x3F 0 0 0) S K n)))))), (sa, .inl (E 0, 9, .inl (g_tv 1))), (pa, .inl (E 0, 29, .inl (pgF S))), (va, .inl (E 1, 5, .inr (.inr (.inl (fl5 S))))), (ua, .inl (E 0, 29, .inl (pgF (tkN nw nf fl (x3F 0 0 0) S n)))), (ya, .inl (E 1, 5, .inr (.inr (.inl (fl5 (tkN nw nf fl (x3F 0 0 0) S n))))))] none := by
  refine g_M.of (cc := cX6_tryTicks) (nL := 2) (ret := none) (own := RX6) (lv := [(0, .ref o), (1, .int (nI n))]) (by decide) rfl rfl (Nat.le_of_ble_eq_true rfl) rfl ?_
  intro p e R s m args below meth c A Q H locs ls hR hQ hc hr hw hl
  have hx := hc.1
  have hb := hc.2.1
  have hts := hc.2.2.2.1
  have hown := hc.2.2.2.2.1
  refine lv_aload_n hx hb dX6_tryTicks_0 rfl (lv_at hl 0 rfl) ?_
  refine g_cV (As := []) (n := 0) (rest := []) (wc := [(o, .inr (6, [u0, u1, u2, .ref xa, .int (nI nw), .int (nI nf), .ref fa, u7, u8, u9, u10, .ref pa, .ref va, .ref ua, .ref ya, u15, u16, u17, u18, u19, u20, u21, u22, u23, u24, u25, u26, .ref wa, .ref la, .ref ta, .int (rS K), .int (rN K), .float (rH K), .ref ma, u34, .ref sa])), (pa, .inl (E 0, 29, .inl (pgF S))), (va, .inl (E 1, 5, .inr (.inr (.inl (fl5 S))))), (ua, .inl (E 0, 29, .inl (pgF U))), (ya, .inl (E 1, 5, .inr (.inr (.inl (fl5 U)))))]) (w1 := [(o, .inr (6, [u0, u1, u2, .ref xa, .int (nI nw), .int (nI nf), .ref fa, u7, u8, u9, u10, .ref pa, .ref va, .ref ua, .ref ya, u15, u16, u17, u18, u19, u20, u21, u22, u23, u24, u25, u26, .ref wa, .ref la, .ref ta, .int (rS K), .int (rN K), .float (rH K), .ref ma, u34, .ref sa])), (pa, .inl (E 0, 29, .inl (pgF S))), (va, .inl (E 1, 5, .inr (.inr (.inl (fl5 S))))), (ua, .inl (E 0, 29, .inl (pgF S))), (ya, .inl (E 1, 5, .inr (.inr (.inl (fl5 S)))))]) (bytes := cX6_layTrial) (maxL := 2) (ret := none) hc hw hl.1 (m_X6_layTrial (l := l) (D := D) (E := E) (T := T) o u0 u1 u2 (.ref xa) (.int (nI nw)) (.int (nI nf)) (.ref fa) u7 u8 u9 u10 u15 u16 u17 u18 u19 u20 u21 u22 u23 u24 u25 u26 (.ref wa) (.ref la) (.ref ta) (.int (rS K)) (.int (rN K)) (.float (rH K)) (.ref ma) u34 (.ref sa) pa va ua ya (pgF S) (fl5 S) (pgF U) (fl5 U)) gX6_tryTicks_X6_layTrial rfl (by decide +kernel) (by rw [hR]; exact ⟨Nat.le_of_ble_eq_true rfl, Nat.le_of_ble_eq_true rfl⟩) [0, 8, 9, 10, 11] 0 6 rfl rfl (by decide) rfl [o, pa, va, ua, ya] rfl rfl rfl rfl (Nat.le_of_ble_eq_true rfl) dX6_tryTicks_1 ⟨Nat.zero_le _, Nat.zero_le _⟩ (fun H locs hw => ?_)
  have hw : g_W D A s [(o, .inr (6, [u0, u1, u2, .ref xa, .int (nI nw), .int (nI nf), .ref fa, u7, u8, u9, u10, .ref pa, .ref va, .ref ua, .ref ya, u15, u16, u17, u18, u19, u20, u21, u22, u23, u24, u25, u26, .ref wa, .ref la, .ref ta, .int (rS K), .int (rN K), .float (rH K), .ref ma, u34, .ref sa])), (xa, .inl (E 0, 12, .inl (g_tv 0))), (fa, .inl (E 0, 18, .inl fl)), (wa, .inl (E 0, 3, .inl (rW K))), (la, .inl (E 1, 4, .inr (.inr (.inl (rP K))))), (ta, .inl (E 1, 4, .inr (.inr (.inl (rT K))))), (ma, .inl (E 1, 3, .inr (.inr (.inl (rM K))))), (sa, .inl (E 0, 9, .inl (g_tv 1))), (pa, .inl (E 0, 29, .inl (pgF S))), (va, .inl (E 1, 5, .inr (.inr (.inl (fl5 S))))), (ua, .inl (E 0, 29, .inl (pgF S))), (ya, .inl (E 1, 5, .inr (.inr (.inl (fl5 S)))))] H locs := hw
  refine lv_aload_n hx hb dX6_tryTicks_4 rfl (lv_at hl 0 rfl) ?_
  refine lv_aload_n hx hb dX6_tryTicks_5 rfl (lv_at hl 0 rfl) ?_
  refine g_get (TT := TX6) hc hw inX6_tryTicks_X6 0 13 1 rfl rfl (by decide) rfl rfl dX6_tryTicks_6 ?_
  refine lv_aload_n hx hb dX6_tryTicks_9 rfl (lv_at hl 0 rfl) ?_
  refine g_get (TT := TX6) hc hw inX6_tryTicks_X6 0 14 2 rfl rfl (by decide) rfl rfl dX6_tryTicks_10 ?_
  refine lv_iload_n hx hb dX6_tryTicks_13 rfl (lv_at hl 1 rfl) ?_
  refine g_cV (As := [.ref ua, .ref ya, .int (nI n)]) (n := 3) (rest := []) (wc := [(o, .inr (6, [u0, u1, u2, .ref xa, .int (nI nw), .int (nI nf), .ref fa, u7, u8, u9, u10, .ref pa, .ref va, .ref ua, .ref ya, u15, u16, u17, u18, u19, u20, u21, u22, u23, u24, u25, u26, .ref wa, .ref la, .ref ta, .int (rS K), .int (rN K), .float (rH K), .ref ma, u34, .ref sa])), (xa, .inl (E 0, 12, .inl (g_tv 0))), (fa, .inl (E 0, 18, .inl fl)), (wa, .inl (E 0, 3, .inl (rW K))), (la, .inl (E 1, 4, .inr (.inr (.inl (rP K))))), (ta, .inl (E 1, 4, .inr (.inr (.inl (rT K))))), (ma, .inl (E 1, 3, .inr (.inr (.inl (rM K))))), (sa, .inl (E 0, 9, .inl (g_tv 1))), (ua, .inl (E 0, 29, .inl (pgF S))), (ya, .inl (E 1, 5, .inr (.inr (.inl (fl5 S)))))]) (w1 := [(o, .inr (6, [u0, u1, u2, .ref xa, .int (nI nw), .int (nI nf), .ref fa, u7, u8, u9, u10, .ref pa, .ref va, .ref ua, .ref ya, u15, u16, u17, u18, u19, u20, u21, u22, u23, u24, u25, u26, .ref wa, .ref la, .ref ta, .int (rS (rjN nw nf fl (x3F 0 0 0) S K n)), .int (rN (rjN nw nf fl (x3F 0 0 0) S K n)), .float (rH (rjN nw nf fl (x3F 0 0 0) S K n)), .ref ma, u34, .ref sa])), (xa, .inl (E 0, 12, .inl (g_tv 0))), (fa, .inl (E 0, 18, .inl fl)), (wa, .inl (E 0, 3, .inl (rW (rjN nw nf fl (x3F 0 0 0) S K n)))), (la, .inl (E 1, 4, .inr (.inr (.inl (rP (rjN nw nf fl (x3F 0 0 0) S K n)))))), (ta, .inl (E 1, 4, .inr (.inr (.inl (rT (rjN nw nf fl (x3F 0 0 0) S K n)))))), (ma, .inl (E 1, 3, .inr (.inr (.inl (rM (rjN nw nf fl (x3F 0 0 0) S K n)))))), (sa, .inl (E 0, 9, .inl (g_tv 1))), (ua, .inl (E 0, 29, .inl (pgF (tkN nw nf fl (x3F 0 0 0) S n)))), (ya, .inl (E 1, 5, .inr (.inr (.inl (fl5 (tkN nw nf fl (x3F 0 0 0) S n))))))]) (bytes := cX6_tickMany) (maxL := 5) (ret := none) hc hw hl.1 (m_X6_tickMany (l := l) (D := D) (E := E) (T := T) o xa fa wa la ta ma sa ua ya nw nf B u0 u1 u2 u7 u8 u9 u10 (.ref pa) (.ref va) (.ref ua) (.ref ya) u15 u16 u17 u18 u19 u20 u21 u22 u23 u24 u25 u26 u34 fl S K n hok hB (by first | assumption | omega | decide) (by first | assumption | omega | decide)) gX6_tryTicks_X6_tickMany rfl (by decide +kernel) (by rw [hR]; exact ⟨Nat.le_of_ble_eq_true rfl, Nat.le_of_ble_eq_true rfl⟩) [0, 1, 2, 3, 4, 5, 6, 7, 10, 11] 0 6 rfl rfl (by decide) rfl [o, xa, fa, wa, la, ta, ma, sa, ua, ya] rfl rfl rfl rfl (Nat.le_of_ble_eq_true rfl) dX6_tryTicks_14 ⟨Nat.zero_le _, Nat.zero_le _⟩ (fun H locs hw => ?_)
  have hw : g_W D A s [(o, .inr (6, [u0, u1, u2, .ref xa, .int (nI nw), .int (nI nf), .ref fa, u7, u8, u9, u10, .ref pa, .ref va, .ref ua, .ref ya, u15, u16, u17, u18, u19, u20, u21, u22, u23, u24, u25, u26, .ref wa, .ref la, .ref ta, .int (rS (rjN nw nf fl (x3F 0 0 0) S K n)), .int (rN (rjN nw nf fl (x3F 0 0 0) S K n)), .float (rH (rjN nw nf fl (x3F 0 0 0) S K n)), .ref ma, u34, .ref sa])), (xa, .inl (E 0, 12, .inl (g_tv 0))), (fa, .inl (E 0, 18, .inl fl)), (wa, .inl (E 0, 3, .inl (rW (rjN nw nf fl (x3F 0 0 0) S K n)))), (la, .inl (E 1, 4, .inr (.inr (.inl (rP (rjN nw nf fl (x3F 0 0 0) S K n)))))), (ta, .inl (E 1, 4, .inr (.inr (.inl (rT (rjN nw nf fl (x3F 0 0 0) S K n)))))), (ma, .inl (E 1, 3, .inr (.inr (.inl (rM (rjN nw nf fl (x3F 0 0 0) S K n)))))), (sa, .inl (E 0, 9, .inl (g_tv 1))), (pa, .inl (E 0, 29, .inl (pgF S))), (va, .inl (E 1, 5, .inr (.inr (.inl (fl5 S))))), (ua, .inl (E 0, 29, .inl (pgF (tkN nw nf fl (x3F 0 0 0) S n)))), (ya, .inl (E 1, 5, .inr (.inr (.inl (fl5 (tkN nw nf fl (x3F 0 0 0) S n))))))] H locs := hw
  exact g_vret hQ hc hw hr rfl rfl dX6_tryTicks_17

theorem dX6_badOnes_0 : decode cX6_badOnes 0 = .ok (.aload_n 0, 1) := by decide +kernel
theorem dX6_badOnes_1 : decode cX6_badOnes 1 = .ok (.getfield 32, 3) := by decide +kernel
theorem dX6_badOnes_4 : decode cX6_badOnes 4 = .ok (.iconst 2, 1) := by decide +kernel
theorem dX6_badOnes_5 : decode cX6_badOnes 5 = .ok (.iaload, 1) := by decide +kernel
theorem dX6_badOnes_6 : decode cX6_badOnes 6 = .ok (.aload_n 0, 1) := by decide +kernel
theorem dX6_badOnes_7 : decode cX6_badOnes 7 = .ok (.getfield 32, 3) := by decide +kernel
theorem dX6_badOnes_10 : decode cX6_badOnes 10 = .ok (.iconst 4, 1) := by decide +kernel
theorem dX6_badOnes_11 : decode cX6_badOnes 11 = .ok (.iaload, 1) := by decide +kernel
theorem dX6_badOnes_12 : decode cX6_badOnes 12 = .ok (.iadd, 1) := by decide +kernel
theorem dX6_badOnes_13 : decode cX6_badOnes 13 = .ok (.istore_n 1, 1) := by decide +kernel
theorem dX6_badOnes_14 : decode cX6_badOnes 14 = .ok (.aload_n 0, 1) := by decide +kernel
theorem dX6_badOnes_15 : decode cX6_badOnes 15 = .ok (.aload_n 0, 1) := by decide +kernel
theorem dX6_badOnes_16 : decode cX6_badOnes 16 = .ok (.getfield 32, 3) := by decide +kernel
theorem dX6_badOnes_19 : decode cX6_badOnes 19 = .ok (.aload_n 0, 1) := by decide +kernel
theorem dX6_badOnes_20 : decode cX6_badOnes 20 = .ok (.getfield 35, 3) := by decide +kernel
theorem dX6_badOnes_23 : decode cX6_badOnes 23 = .ok (.bipush 20, 2) := by decide +kernel
theorem dX6_badOnes_25 : decode cX6_badOnes 25 = .ok (.invokevirtual 234, 3) := by decide +kernel
theorem dX6_badOnes_28 : decode cX6_badOnes 28 = .ok (.aload_n 0, 1) := by decide +kernel
theorem dX6_badOnes_29 : decode cX6_badOnes 29 = .ok (.getfield 32, 3) := by decide +kernel
theorem dX6_badOnes_32 : decode cX6_badOnes 32 = .ok (.iconst 2, 1) := by decide +kernel
theorem dX6_badOnes_33 : decode cX6_badOnes 33 = .ok (.iaload, 1) := by decide +kernel
theorem dX6_badOnes_34 : decode cX6_badOnes 34 = .ok (.aload_n 0, 1) := by decide +kernel
theorem dX6_badOnes_35 : decode cX6_badOnes 35 = .ok (.getfield 32, 3) := by decide +kernel
theorem dX6_badOnes_38 : decode cX6_badOnes 38 = .ok (.iconst 4, 1) := by decide +kernel
theorem dX6_badOnes_39 : decode cX6_badOnes 39 = .ok (.iaload, 1) := by decide +kernel
theorem dX6_badOnes_40 : decode cX6_badOnes 40 = .ok (.iadd, 1) := by decide +kernel
theorem dX6_badOnes_41 : decode cX6_badOnes 41 = .ok (.iload_n 1, 1) := by decide +kernel
theorem dX6_badOnes_42 : decode cX6_badOnes 42 = .ok (.isub, 1) := by decide +kernel
theorem dX6_badOnes_43 : decode cX6_badOnes 43 = .ok (.ireturn, 1) := by decide +kernel
set_option maxRecDepth 20000 in
theorem ggX6_badOnes_X6_tickMany : GoodIn wsX6_badOnes wsX6_tickMany := goodIn_r _ [7, 8, 9, 10, 6, 11, 12, 13, 14, 15, 16, 17, 18, 19, 20, 21, 22, 23, 24, 25, 26, 27, 28, 29, 30, 31, 32, 33, 34, 35, 36, 37, 38, 39, 40, 41, 42, 43, 44, 45, 46, 47, 48, 49, 50, 51, 52, 53, 54, 55, 56, 57, 58, 59, 60, 61, 62, 63, 64, 65, 66, 67, 68, 69, 70, 71, 72, 73, 74, 75, 76, 77, 78, 79, 80, 81, 82, 83, 84, 85, 86, 87, 88, 89, 90, 91, 92, 93, 94, 95, 96, 97, 98, 99, 100, 101, 102, 103, 104, 105, 106, 107, 108, 109, 110, 111, 112, 113, 114, 115, 116, 117, 118] rfl (by decide +kernel)
set_option maxRecDepth 20000 in
theorem gX6_badOnes_X6_tickMany : GoodIn wsX6_badOnes (wsV RX6 234 RX6 yX6_tickMany wsX6_tickMany) := goodIn_app (goodIn_of _ (by decide +kernel)) ggX6_badOnes_X6_tickMany
theorem inX6_badOnes_X6 : ∀ w ∈ u_ws RX6 TX6 36, w ∈ wsX6_badOnes := fun w h => List.mem_cons_of_mem _ (List.mem_append_right _ h)
set_option maxRecDepth 100000 in
set_option maxHeartbeats 4000000 in
theorem m_X6_badOnes {l : Launch} {D : va_G} {E : Nat → ClassId} {T : Nat → Nat} (o : Nat) (xa : Nat) (fa : Nat) (wa : Nat) (la : Nat) (ta : Nat) (ma : Nat) (sa : Nat) (nw : Nat) (nf : Nat) (ua : Nat) (ya : Nat) (B : Nat) (u0 : Value) (u1 : Value) (u2 : Value) (u7 : Value) (u8 : Value) (u9 : Value) (u10 : Value) (u11 : Value) (u12 : Value) (u15 : Value) (u16 : Value) (u17 : Value) (u18 : Value) (u19 : Value) (u20 : Value) (u21 : Value) (u22 : Value) (u23 : Value) (u24 : Value) (u25 : Value) (u26 : Value) (u34 : Value) (fl : Nat → Int32) (S : TS) (K : RJ) (hok : OkS B S) (hB : B + 20 < 2 ^ 31) (hnw : nw ≤ 6) (hnf : nf ≤ 6) : g_M l D E T yX6_badOnes wsX6_badOnes 7 173 [.ref o] [(o, .inr (6, [u0, u1, u2, .ref xa, .int (nI nw), .int (nI nf), .ref fa, u7, u8, u9, u10, u11, u12, .ref ua, .ref ya, u15, u16, u17, u18, u19, u20, u21, u22, u23, u24, u25, u26, .ref wa, .ref la, .ref ta, .int (rS K), .int (rN K), .float (rH K), .ref ma, u34, .ref sa])), (xa, .inl (E 0, 12, .inl (g_tv 0))), (fa, .inl (E 0, 18, .inl fl)), (wa, .inl (E 0, 3, .inl (rW K))), (la, .inl (E 1, 4, .inr (.inr (.inl (rP K))))), (ta, .inl (E 1, 4, .inr (.inr (.inl (rT K))))), (ma, .inl (E 1, 3, .inr (.inr (.inl (rM K))))), (sa, .inl (E 0, 9, .inl (g_tv 1))), (ua, .inl (E 0, 29, .inl (pgF S))), (ya, .inl (E 1, 5, .inr (.inr (.inl (fl5 S)))))] [(o, .inr (6, [u0, u1, u2, .ref xa, .int (nI nw), .int (nI nf), .ref fa, u7, u8, u9, u10, u11, u12, .ref ua, .ref ya, u15, u16, u17, u18, u19, u20, u21, u22, u23, u24, u25, u26, .ref wa, .ref la, .ref ta, .int (rS (rjN nw nf fl (x3F 0 0 0) S K 20)), .int (rN (rjN nw nf fl (x3F 0 0 0) S K 20)), .float (rH (rjN nw nf fl (x3F 0 0 0) S K 20)), .ref ma, u34, .ref sa])), (xa, .inl (E 0, 12, .inl (g_tv 0))), (fa, .inl (E 0, 18, .inl fl)), (wa, .inl (E 0, 3, .inl (rW (rjN nw nf fl (x3F 0 0 0) S K 20)))), (la, .inl (E 1, 4, .inr (.inr (.inl (rP (rjN nw nf fl (x3F 0 0 0) S K 20)))))), (ta, .inl (E 1, 4, .inr (.inr (.inl (rT (rjN nw nf fl (x3F 0 0 0) S K 20)))))), (ma, .inl (E 1, 3, .inr (.inr (.inl (rM (rjN nw nf fl (x3F 0 0 0) S K 20)))))), (sa, .inl (E 0, 9, .inl (g_tv 1))), (ua, .inl (E 0, 29, .inl (pgF (tkN nw nf fl (x3F 0 0 0) S 20)))), (ya, .inl (E 1, 5, .inr (.inr (.inl (fl5 (tkN nw nf fl (x3F 0 0 0) S 20))))))] (some (.int (clR nw nf fl (x3F 0 0 0) S 20))) := by
  refine g_M.of (cc := cX6_badOnes) (nL := 2) (ret := (some .int)) (own := RX6) (lv := [(0, .ref o)]) (by decide) rfl rfl (Nat.le_of_ble_eq_true rfl) rfl ?_
  intro p e R s m args below meth c A Q H locs ls hR hQ hc hr hw hl
  have hx := hc.1
  have hb := hc.2.1
  have hts := hc.2.2.2.1
  have hown := hc.2.2.2.2.1
  refine lv_aload_n hx hb dX6_badOnes_0 rfl (lv_at hl 0 rfl) ?_
  refine g_get (TT := TX6) hc hw inX6_badOnes_X6 0 13 1 rfl rfl (by decide) rfl rfl dX6_badOnes_1 ?_
  refine lv_iconst (v := 2) hx hb dX6_badOnes_4 (by decide) ?_
  refine g_ild hc hw 8 2 rfl rfl (by omega) (by decide) dX6_badOnes_5 ?_
  refine W.eq (congrArg (fun z => F0 m 6 ls (.int z :: [])) (show ((pgF S) 2 : Int32) = sI S from rfl)) ?_
  refine lv_aload_n hx hb dX6_badOnes_6 rfl (lv_at hl 0 rfl) ?_
  refine g_get (TT := TX6) hc hw inX6_badOnes_X6 0 13 1 rfl rfl (by decide) rfl rfl dX6_badOnes_7 ?_
  refine lv_iconst (v := 4) hx hb dX6_badOnes_10 (by decide) ?_
  refine g_ild hc hw 8 4 rfl rfl (by omega) (by decide) dX6_badOnes_11 ?_
  refine W.eq (congrArg (fun z => F0 m 12 ls (.int z :: [.int (sI S)])) (show ((pgF S) 4 : Int32) = sA S from rfl)) ?_
  refine lv_iadd hx hb dX6_badOnes_12 ?_
  refine lv_istore_n (lv' := [(1, .int ((sI S) + (sA S))), (0, .ref o)]) hx hb dX6_badOnes_13 rfl hl (by decide) rfl (fun ls hl => ?_)
  refine lv_aload_n hx hb dX6_badOnes_14 rfl (lv_at hl 1 rfl) ?_
  refine lv_aload_n hx hb dX6_badOnes_15 rfl (lv_at hl 1 rfl) ?_
  refine g_get (TT := TX6) hc hw inX6_badOnes_X6 0 13 1 rfl rfl (by decide) rfl rfl dX6_badOnes_16 ?_
  refine lv_aload_n hx hb dX6_badOnes_19 rfl (lv_at hl 1 rfl) ?_
  refine g_get (TT := TX6) hc hw inX6_badOnes_X6 0 14 2 rfl rfl (by decide) rfl rfl dX6_badOnes_20 ?_
  refine lv_bipush (v := 20) hx hb dX6_badOnes_23 (by decide) ?_
  refine g_cV (As := [.ref ua, .ref ya, .int 20]) (n := 3) (rest := []) (wc := [(o, .inr (6, [u0, u1, u2, .ref xa, .int (nI nw), .int (nI nf), .ref fa, u7, u8, u9, u10, u11, u12, .ref ua, .ref ya, u15, u16, u17, u18, u19, u20, u21, u22, u23, u24, u25, u26, .ref wa, .ref la, .ref ta, .int (rS K), .int (rN K), .float (rH K), .ref ma, u34, .ref sa])), (xa, .inl (E 0, 12, .inl (g_tv 0))), (fa, .inl (E 0, 18, .inl fl)), (wa, .inl (E 0, 3, .inl (rW K))), (la, .inl (E 1, 4, .inr (.inr (.inl (rP K))))), (ta, .inl (E 1, 4, .inr (.inr (.inl (rT K))))), (ma, .inl (E 1, 3, .inr (.inr (.inl (rM K))))), (sa, .inl (E 0, 9, .inl (g_tv 1))), (ua, .inl (E 0, 29, .inl (pgF S))), (ya, .inl (E 1, 5, .inr (.inr (.inl (fl5 S)))))]) (w1 := [(o, .inr (6, [u0, u1, u2, .ref xa, .int (nI nw), .int (nI nf), .ref fa, u7, u8, u9, u10, u11, u12, .ref ua, .ref ya, u15, u16, u17, u18, u19, u20, u21, u22, u23, u24, u25, u26, .ref wa, .ref la, .ref ta, .int (rS (rjN nw nf fl (x3F 0 0 0) S K 20)), .int (rN (rjN nw nf fl (x3F 0 0 0) S K 20)), .float (rH (rjN nw nf fl (x3F 0 0 0) S K 20)), .ref ma, u34, .ref sa])), (xa, .inl (E 0, 12, .inl (g_tv 0))), (fa, .inl (E 0, 18, .inl fl)), (wa, .inl (E 0, 3, .inl (rW (rjN nw nf fl (x3F 0 0 0) S K 20)))), (la, .inl (E 1, 4, .inr (.inr (.inl (rP (rjN nw nf fl (x3F 0 0 0) S K 20)))))), (ta, .inl (E 1, 4, .inr (.inr (.inl (rT (rjN nw nf fl (x3F 0 0 0) S K 20)))))), (ma, .inl (E 1, 3, .inr (.inr (.inl (rM (rjN nw nf fl (x3F 0 0 0) S K 20)))))), (sa, .inl (E 0, 9, .inl (g_tv 1))), (ua, .inl (E 0, 29, .inl (pgF (tkN nw nf fl (x3F 0 0 0) S 20)))), (ya, .inl (E 1, 5, .inr (.inr (.inl (fl5 (tkN nw nf fl (x3F 0 0 0) S 20))))))]) (bytes := cX6_tickMany) (maxL := 5) (ret := none) hc hw hl.1 (m_X6_tickMany (l := l) (D := D) (E := E) (T := T) o xa fa wa la ta ma sa ua ya nw nf B u0 u1 u2 u7 u8 u9 u10 u11 u12 (.ref ua) (.ref ya) u15 u16 u17 u18 u19 u20 u21 u22 u23 u24 u25 u26 u34 fl S K 20 hok hB (by first | assumption | omega | decide) (by first | assumption | omega | decide)) gX6_badOnes_X6_tickMany rfl (by decide +kernel) (by rw [hR]; exact ⟨Nat.le_of_ble_eq_true rfl, Nat.le_of_ble_eq_true rfl⟩) [0, 1, 2, 3, 4, 5, 6, 7, 8, 9] 0 6 rfl rfl (by decide) rfl [o, xa, fa, wa, la, ta, ma, sa, ua, ya] rfl rfl rfl rfl (Nat.le_of_ble_eq_true rfl) dX6_badOnes_25 ⟨Nat.zero_le _, Nat.zero_le _⟩ (fun H locs hw => ?_)
  have hw : g_W D A s [(o, .inr (6, [u0, u1, u2, .ref xa, .int (nI nw), .int (nI nf), .ref fa, u7, u8, u9, u10, u11, u12, .ref ua, .ref ya, u15, u16, u17, u18, u19, u20, u21, u22, u23, u24, u25, u26, .ref wa, .ref la, .ref ta, .int (rS (rjN nw nf fl (x3F 0 0 0) S K 20)), .int (rN (rjN nw nf fl (x3F 0 0 0) S K 20)), .float (rH (rjN nw nf fl (x3F 0 0 0) S K 20)), .ref ma, u34, .ref sa])), (xa, .inl (E 0, 12, .inl (g_tv 0))), (fa, .inl (E 0, 18, .inl fl)), (wa, .inl (E 0, 3, .inl (rW (rjN nw nf fl (x3F 0 0 0) S K 20)))), (la, .inl (E 1, 4, .inr (.inr (.inl (rP (rjN nw nf fl (x3F 0 0 0) S K 20)))))), (ta, .inl (E 1, 4, .inr (.inr (.inl (rT (rjN nw nf fl (x3F 0 0 0) S K 20)))))), (ma, .inl (E 1, 3, .inr (.inr (.inl (rM (rjN nw nf fl (x3F 0 0 0) S K 20)))))), (sa, .inl (E 0, 9, .inl (g_tv 1))), (ua, .inl (E 0, 29, .inl (pgF (tkN nw nf fl (x3F 0 0 0) S 20)))), (ya, .inl (E 1, 5, .inr (.inr (.inl (fl5 (tkN nw nf fl (x3F 0 0 0) S 20))))))] H locs := hw
  refine lv_aload_n hx hb dX6_badOnes_28 rfl (lv_at hl 1 rfl) ?_
  refine g_get (TT := TX6) hc hw inX6_badOnes_X6 0 13 1 rfl rfl (by decide) rfl rfl dX6_badOnes_29 ?_
  refine lv_iconst (v := 2) hx hb dX6_badOnes_32 (by decide) ?_
  refine g_ild hc hw 8 2 rfl rfl (by omega) (by decide) dX6_badOnes_33 ?_
  refine W.eq (congrArg (fun z => F0 m 34 ls (.int z :: [])) (show ((pgF (tkN nw nf fl (x3F 0 0 0) S 20)) 2 : Int32) = sI (tkN nw nf fl (x3F 0 0 0) S 20) from rfl)) ?_
  refine lv_aload_n hx hb dX6_badOnes_34 rfl (lv_at hl 1 rfl) ?_
  refine g_get (TT := TX6) hc hw inX6_badOnes_X6 0 13 1 rfl rfl (by decide) rfl rfl dX6_badOnes_35 ?_
  refine lv_iconst (v := 4) hx hb dX6_badOnes_38 (by decide) ?_
  refine g_ild hc hw 8 4 rfl rfl (by omega) (by decide) dX6_badOnes_39 ?_
  refine W.eq (congrArg (fun z => F0 m 40 ls (.int z :: [.int (sI (tkN nw nf fl (x3F 0 0 0) S 20))])) (show ((pgF (tkN nw nf fl (x3F 0 0 0) S 20)) 4 : Int32) = sA (tkN nw nf fl (x3F 0 0 0) S 20) from rfl)) ?_
  refine lv_iadd hx hb dX6_badOnes_40 ?_
  refine lv_iload_n hx hb dX6_badOnes_41 rfl (lv_at hl 0 rfl) ?_
  refine lv_isub hx hb dX6_badOnes_42 ?_
  exact g_iret hQ hc hw hr rfl rfl dX6_badOnes_43

theorem dX6_badBy_0 : decode cX6_badBy 0 = .ok (.aload_n 0, 1) := by decide +kernel
theorem dX6_badBy_1 : decode cX6_badBy 1 = .ok (.invokevirtual 248, 3) := by decide +kernel
theorem dX6_badBy_4 : decode cX6_badBy 4 = .ok (.aload_n 0, 1) := by decide +kernel
theorem dX6_badBy_5 : decode cX6_badBy 5 = .ok (.getfield 32, 3) := by decide +kernel
theorem dX6_badBy_8 : decode cX6_badBy 8 = .ok (.iconst 0, 1) := by decide +kernel
theorem dX6_badBy_9 : decode cX6_badBy 9 = .ok (.iload_n 1, 1) := by decide +kernel
theorem dX6_badBy_10 : decode cX6_badBy 10 = .ok (.iastore, 1) := by decide +kernel
theorem dX6_badBy_11 : decode cX6_badBy 11 = .ok (.aload_n 0, 1) := by decide +kernel
theorem dX6_badBy_12 : decode cX6_badBy 12 = .ok (.getfield 32, 3) := by decide +kernel
theorem dX6_badBy_15 : decode cX6_badBy 15 = .ok (.iconst 1, 1) := by decide +kernel
theorem dX6_badBy_16 : decode cX6_badBy 16 = .ok (.iload_n 1, 1) := by decide +kernel
theorem dX6_badBy_17 : decode cX6_badBy 17 = .ok (.invokestatic 202, 3) := by decide +kernel
theorem dX6_badBy_20 : decode cX6_badBy 20 = .ok (.iconst 1, 1) := by decide +kernel
theorem dX6_badBy_21 : decode cX6_badBy 21 = .ok (.if_icmp .le 7, 3) := by decide +kernel
theorem dX6_badBy_24 : decode cX6_badBy 24 = .ok (.iconst 1, 1) := by decide +kernel
theorem dX6_badBy_25 : decode cX6_badBy 25 = .ok (.goto 9, 3) := by decide +kernel
theorem dX6_badBy_28 : decode cX6_badBy 28 = .ok (.aload_n 0, 1) := by decide +kernel
theorem dX6_badBy_29 : decode cX6_badBy 29 = .ok (.getfield 32, 3) := by decide +kernel
theorem dX6_badBy_32 : decode cX6_badBy 32 = .ok (.iconst 1, 1) := by decide +kernel
theorem dX6_badBy_33 : decode cX6_badBy 33 = .ok (.iaload, 1) := by decide +kernel
theorem dX6_badBy_34 : decode cX6_badBy 34 = .ok (.iastore, 1) := by decide +kernel
theorem dX6_badBy_35 : decode cX6_badBy 35 = .ok (.aload_n 0, 1) := by decide +kernel
theorem dX6_badBy_36 : decode cX6_badBy 36 = .ok (.invokevirtual 257, 3) := by decide +kernel
theorem dX6_badBy_39 : decode cX6_badBy 39 = .ok (.ireturn, 1) := by decide +kernel
set_option maxRecDepth 20000 in
theorem ggX6_badBy_X6_layTrial : GoodIn wsX6_badBy wsX6_layTrial := goodIn_r _ [6, 1, 7, 8, 9, 93, 94, 95, 96, 97, 98, 99, 100, 101, 102, 103, 104, 105, 106, 107, 108, 109, 110, 111, 112, 113, 114, 115, 116, 117, 118, 119, 120, 121, 122, 123, 124, 125, 126, 127, 128] rfl (by decide +kernel)
set_option maxRecDepth 20000 in
theorem gX6_badBy_X6_layTrial : GoodIn wsX6_badBy (wsV RX6 248 RX6 yX6_layTrial wsX6_layTrial) := goodIn_app (goodIn_of _ (by decide +kernel)) ggX6_badBy_X6_layTrial
set_option maxRecDepth 20000 in
theorem ggX6_badBy_X6_ones : GoodIn wsX6_badBy wsX6_ones := goodIn_r _ [12] rfl (by decide +kernel)
set_option maxRecDepth 20000 in
theorem gX6_badBy_X6_ones : GoodIn wsX6_badBy (va_wsS RX6 202 yX6_ones wsX6_ones) := goodIn_app (goodIn_of _ (by decide +kernel)) ggX6_badBy_X6_ones
set_option maxRecDepth 20000 in
theorem ggX6_badBy_X6_badOnes : GoodIn wsX6_badBy wsX6_badOnes := goodIn_r _ [16, 1, 8, 17, 18, 19, 5, 20, 21, 22, 23, 24, 25, 26, 27, 28, 29, 30, 31, 32, 33, 34, 35, 36, 37, 38, 39, 40, 41, 42, 43, 44, 45, 46, 47, 48, 49, 50, 51, 52, 53, 54, 55, 56, 57, 58, 59, 60, 61, 62, 63, 64, 65, 66, 67, 68, 69, 70, 71, 72, 73, 74, 75, 76, 10, 11, 12, 77, 78, 79, 80, 81, 82, 83, 84, 85, 86, 87, 88, 89, 90, 91, 92, 93, 94, 95, 96, 97, 98, 99, 100, 101, 102, 103, 104, 105, 106, 107, 108, 109, 110, 111, 112, 113, 114, 115, 116, 117, 118, 119, 120, 121, 122, 123, 124, 125, 126, 127, 128] rfl (by decide +kernel)
set_option maxRecDepth 20000 in
theorem gX6_badBy_X6_badOnes : GoodIn wsX6_badBy (wsV RX6 257 RX6 yX6_badOnes wsX6_badOnes) := goodIn_app (goodIn_of _ (by decide +kernel)) ggX6_badBy_X6_badOnes
theorem inX6_badBy_X6 : ∀ w ∈ u_ws RX6 TX6 36, w ∈ wsX6_badBy := fun w h => List.mem_cons_of_mem _ (List.mem_append_right _ h)
set_option maxRecDepth 100000 in
set_option maxHeartbeats 4000000 in
theorem m_X6_badBy {l : Launch} {D : va_G} {E : Nat → ClassId} {T : Nat → Nat} (o : Nat) (xa : Nat) (fa : Nat) (wa : Nat) (la : Nat) (ta : Nat) (ma : Nat) (sa : Nat) (nw : Nat) (nf : Nat) (pa : Nat) (va : Nat) (ua : Nat) (ya : Nat) (B : Nat) (u0 : Value) (u1 : Value) (u2 : Value) (u7 : Value) (u8 : Value) (u9 : Value) (u10 : Value) (u15 : Value) (u16 : Value) (u17 : Value) (u18 : Value) (u19 : Value) (u20 : Value) (u21 : Value) (u22 : Value) (u23 : Value) (u24 : Value) (u25 : Value) (u26 : Value) (u34 : Value) (fl : Nat → Int32) (S : TS) (U : TS) (K : RJ) (d : Nat) (hok : OkS B S) (hB : B + 20 < 2 ^ 31) (hnw : nw ≤ 6) (hnf : nf ≤ 6) (hd : d < 16) : g_M l D E T yX6_badBy wsX6_badBy 8 194 [.ref o, .int (nI d)] [(o, .inr (6, [u0, u1, u2, .ref xa, .int (nI nw), .int (nI nf), .ref fa, u7, u8, u9, u10, .ref pa, .ref va, .ref ua, .ref ya, u15, u16, u17, u18, u19, u20, u21, u22, u23, u24, u25, u26, .ref wa, .ref la, .ref ta, .int (rS K), .int (rN K), .float (rH K), .ref ma, u34, .ref sa])), (xa, .inl (E 0, 12, .inl (g_tv 0))), (fa, .inl (E 0, 18, .inl fl)), (wa, .inl (E 0, 3, .inl (rW K))), (la, .inl (E 1, 4, .inr (.inr (.inl (rP K))))), (ta, .inl (E 1, 4, .inr (.inr (.inl (rT K))))), (ma, .inl (E 1, 3, .inr (.inr (.inl (rM K))))), (sa, .inl (E 0, 9, .inl (g_tv 1))), (pa, .inl (E 0, 29, .inl (pgF S))), (va, .inl (E 1, 5, .inr (.inr (.inl (fl5 S))))), (ua, .inl (E 0, 29, .inl (pgF U))), (ya, .inl (E 1, 5, .inr (.inr (.inl (fl5 U)))))] [(o, .inr (6, [u0, u1, u2, .ref xa, .int (nI nw), .int (nI nf), .ref fa, u7, u8, u9, u10, .ref pa, .ref va, .ref ua, .ref ya, u15, u16, u17, u18, u19, u20, u21, u22, u23, u24, u25, u26, .ref wa, .ref la, .ref ta, .int (rS (rjN nw nf fl (x3F 0 0 0) (dvS S d) K 20)), .int (rN (rjN nw nf fl (x3F 0 0 0) (dvS S d) K 20)), .float (rH (rjN nw nf fl (x3F 0 0 0) (dvS S d) K 20)), .ref ma, u34, .ref sa])), (xa, .inl (E 0, 12, .inl (g_tv 0))), (fa, .inl (E 0, 18, .inl fl)), (wa, .inl (E 0, 3, .inl (rW (rjN nw nf fl (x3F 0 0 0) (dvS S d) K 20)))), (la, .inl (E 1, 4, .inr (.inr (.inl (rP (rjN nw nf fl (x3F 0 0 0) (dvS S d) K 20)))))), (ta, .inl (E 1, 4, .inr (.inr (.inl (rT (rjN nw nf fl (x3F 0 0 0) (dvS S d) K 20)))))), (ma, .inl (E 1, 3, .inr (.inr (.inl (rM (rjN nw nf fl (x3F 0 0 0) (dvS S d) K 20)))))), (sa, .inl (E 0, 9, .inl (g_tv 1))), (pa, .inl (E 0, 29, .inl (pgF S))), (va, .inl (E 1, 5, .inr (.inr (.inl (fl5 S))))), (ua, .inl (E 0, 29, .inl (pgF (tkN nw nf fl (x3F 0 0 0) (dvS S d) 20)))), (ya, .inl (E 1, 5, .inr (.inr (.inl (fl5 (tkN nw nf fl (x3F 0 0 0) (dvS S d) 20))))))] (some (.int (clR nw nf fl (x3F 0 0 0) (dvS S d) 20))) := by
  have hpc := pcn_lt _ hd
  refine g_M.of (cc := cX6_badBy) (nL := 2) (ret := (some .int)) (own := RX6) (lv := [(0, .ref o), (1, .int (nI d))]) (by decide) rfl rfl (Nat.le_of_ble_eq_true rfl) rfl ?_
  intro p e R s m args below meth c A Q H locs ls hR hQ hc hr hw hl
  have hx := hc.1
  have hb := hc.2.1
  have hts := hc.2.2.2.1
  have hown := hc.2.2.2.2.1
  refine lv_aload_n hx hb dX6_badBy_0 rfl (lv_at hl 0 rfl) ?_
  refine g_cV (As := []) (n := 0) (rest := []) (wc := [(o, .inr (6, [u0, u1, u2, .ref xa, .int (nI nw), .int (nI nf), .ref fa, u7, u8, u9, u10, .ref pa, .ref va, .ref ua, .ref ya, u15, u16, u17, u18, u19, u20, u21, u22, u23, u24, u25, u26, .ref wa, .ref la, .ref ta, .int (rS K), .int (rN K), .float (rH K), .ref ma, u34, .ref sa])), (pa, .inl (E 0, 29, .inl (pgF S))), (va, .inl (E 1, 5, .inr (.inr (.inl (fl5 S))))), (ua, .inl (E 0, 29, .inl (pgF U))), (ya, .inl (E 1, 5, .inr (.inr (.inl (fl5 U)))))]) (w1 := [(o, .inr (6, [u0, u1, u2, .ref xa, .int (nI nw), .int (nI nf), .ref fa, u7, u8, u9, u10, .ref pa, .ref va, .ref ua, .ref ya, u15, u16, u17, u18, u19, u20, u21, u22, u23, u24, u25, u26, .ref wa, .ref la, .ref ta, .int (rS K), .int (rN K), .float (rH K), .ref ma, u34, .ref sa])), (pa, .inl (E 0, 29, .inl (pgF S))), (va, .inl (E 1, 5, .inr (.inr (.inl (fl5 S))))), (ua, .inl (E 0, 29, .inl (pgF S))), (ya, .inl (E 1, 5, .inr (.inr (.inl (fl5 S)))))]) (bytes := cX6_layTrial) (maxL := 2) (ret := none) hc hw hl.1 (m_X6_layTrial (l := l) (D := D) (E := E) (T := T) o u0 u1 u2 (.ref xa) (.int (nI nw)) (.int (nI nf)) (.ref fa) u7 u8 u9 u10 u15 u16 u17 u18 u19 u20 u21 u22 u23 u24 u25 u26 (.ref wa) (.ref la) (.ref ta) (.int (rS K)) (.int (rN K)) (.float (rH K)) (.ref ma) u34 (.ref sa) pa va ua ya (pgF S) (fl5 S) (pgF U) (fl5 U)) gX6_badBy_X6_layTrial rfl (by decide +kernel) (by rw [hR]; exact ⟨Nat.le_of_ble_eq_true rfl, Nat.le_of_ble_eq_true rfl⟩) [0, 8, 9, 10, 11] 0 6 rfl rfl (by decide) rfl [o, pa, va, ua, ya] rfl rfl rfl rfl (Nat.le_of_ble_eq_true rfl) dX6_badBy_1 ⟨Nat.zero_le _, Nat.zero_le _⟩ (fun H locs hw => ?_)
  have hw : g_W D A s [(o, .inr (6, [u0, u1, u2, .ref xa, .int (nI nw), .int (nI nf), .ref fa, u7, u8, u9, u10, .ref pa, .ref va, .ref ua, .ref ya, u15, u16, u17, u18, u19, u20, u21, u22, u23, u24, u25, u26, .ref wa, .ref la, .ref ta, .int (rS K), .int (rN K), .float (rH K), .ref ma, u34, .ref sa])), (xa, .inl (E 0, 12, .inl (g_tv 0))), (fa, .inl (E 0, 18, .inl fl)), (wa, .inl (E 0, 3, .inl (rW K))), (la, .inl (E 1, 4, .inr (.inr (.inl (rP K))))), (ta, .inl (E 1, 4, .inr (.inr (.inl (rT K))))), (ma, .inl (E 1, 3, .inr (.inr (.inl (rM K))))), (sa, .inl (E 0, 9, .inl (g_tv 1))), (pa, .inl (E 0, 29, .inl (pgF S))), (va, .inl (E 1, 5, .inr (.inr (.inl (fl5 S))))), (ua, .inl (E 0, 29, .inl (pgF S))), (ya, .inl (E 1, 5, .inr (.inr (.inl (fl5 S)))))] H locs := hw
  refine lv_aload_n hx hb dX6_badBy_4 rfl (lv_at hl 0 rfl) ?_
  refine g_get (TT := TX6) hc hw inX6_badBy_X6 0 13 1 rfl rfl (by decide) rfl rfl dX6_badBy_5 ?_
  refine lv_iconst (v := 0) hx hb dX6_badBy_8 (by decide) ?_
  refine lv_iload_n hx hb dX6_badBy_9 rfl (lv_at hl 1 rfl) ?_
  refine g_ist hc hw 10 0 rfl rfl (by omega) (by decide) dX6_badBy_10 (fun H locs hw => ?_)
  have hw : g_W D A s [(o, .inr (6, [u0, u1, u2, .ref xa, .int (nI nw), .int (nI nf), .ref fa, u7, u8, u9, u10, .ref pa, .ref va, .ref ua, .ref ya, u15, u16, u17, u18, u19, u20, u21, u22, u23, u24, u25, u26, .ref wa, .ref la, .ref ta, .int (rS K), .int (rN K), .float (rH K), .ref ma, u34, .ref sa])), (xa, .inl (E 0, 12, .inl (g_tv 0))), (fa, .inl (E 0, 18, .inl fl)), (wa, .inl (E 0, 3, .inl (rW K))), (la, .inl (E 1, 4, .inr (.inr (.inl (rP K))))), (ta, .inl (E 1, 4, .inr (.inr (.inl (rT K))))), (ma, .inl (E 1, 3, .inr (.inr (.inl (rM K))))), (sa, .inl (E 0, 9, .inl (g_tv 1))), (pa, .inl (E 0, 29, .inl (pgF S))), (va, .inl (E 1, 5, .inr (.inr (.inl (fl5 S))))), (ua, .inl (E 0, 29, .inl (upd (pgF S) 0 (nI d)))), (ya, .inl (E 1, 5, .inr (.inr (.inl (fl5 S)))))] H locs := hw
  rw [pg_D] at hw
  have hw : g_W D A s [(o, .inr (6, [u0, u1, u2, .ref xa, .int (nI nw), .int (nI nf), .ref fa, u7, u8, u9, u10, .ref pa, .ref va, .ref ua, .ref ya, u15, u16, u17, u18, u19, u20, u21, u22, u23, u24, u25, u26, .ref wa, .ref la, .ref ta, .int (rS K), .int (rN K), .float (rH K), .ref ma, u34, .ref sa])), (xa, .inl (E 0, 12, .inl (g_tv 0))), (fa, .inl (E 0, 18, .inl fl)), (wa, .inl (E 0, 3, .inl (rW K))), (la, .inl (E 1, 4, .inr (.inr (.inl (rP K))))), (ta, .inl (E 1, 4, .inr (.inr (.inl (rT K))))), (ma, .inl (E 1, 3, .inr (.inr (.inl (rM K))))), (sa, .inl (E 0, 9, .inl (g_tv 1))), (pa, .inl (E 0, 29, .inl (pgF S))), (va, .inl (E 1, 5, .inr (.inr (.inl (fl5 S))))), (ua, .inl (E 0, 29, .inl (pgF (wD S d)))), (ya, .inl (E 1, 5, .inr (.inr (.inl (fl5 S)))))] H locs := hw
  refine lv_aload_n hx hb dX6_badBy_11 rfl (lv_at hl 0 rfl) ?_
  refine g_get (TT := TX6) hc hw inX6_badBy_X6 0 13 1 rfl rfl (by decide) rfl rfl dX6_badBy_12 ?_
  refine lv_iconst (v := 1) hx hb dX6_badBy_15 (by decide) ?_
  refine lv_iload_n hx hb dX6_badBy_16 rfl (lv_at hl 1 rfl) ?_
  refine g_cS (As := [.int (nI d)]) (n := 1) (rest := [.int 1, .ref ua]) (wc := []) (w1 := []) (bytes := cX6_ones) (maxL := 3) (ret := (some .int)) hc hw hl.1 (m_X6_ones (l := l) (D := D) (E := E) (T := T) d hd) gX6_badBy_X6_ones rfl (by decide +kernel) (by rw [hR]; exact ⟨Nat.le_of_ble_eq_true rfl, Nat.le_of_ble_eq_true rfl⟩) [] (by decide) rfl [] rfl rfl rfl rfl (Nat.le_of_ble_eq_true rfl) dX6_badBy_17 ⟨Nat.zero_le _, Nat.zero_le _⟩ (fun H locs hw => ?_)
  have hw : g_W D A s [(o, .inr (6, [u0, u1, u2, .ref xa, .int (nI nw), .int (nI nf), .ref fa, u7, u8, u9, u10, .ref pa, .ref va, .ref ua, .ref ya, u15, u16, u17, u18, u19, u20, u21, u22, u23, u24, u25, u26, .ref wa, .ref la, .ref ta, .int (rS K), .int (rN K), .float (rH K), .ref ma, u34, .ref sa])), (xa, .inl (E 0, 12, .inl (g_tv 0))), (fa, .inl (E 0, 18, .inl fl)), (wa, .inl (E 0, 3, .inl (rW K))), (la, .inl (E 1, 4, .inr (.inr (.inl (rP K))))), (ta, .inl (E 1, 4, .inr (.inr (.inl (rT K))))), (ma, .inl (E 1, 3, .inr (.inr (.inl (rM K))))), (sa, .inl (E 0, 9, .inl (g_tv 1))), (pa, .inl (E 0, 29, .inl (pgF S))), (va, .inl (E 1, 5, .inr (.inr (.inl (fl5 S))))), (ua, .inl (E 0, 29, .inl (pgF (wD S d)))), (ya, .inl (E 1, 5, .inr (.inr (.inl (fl5 S)))))] H locs := hw
  refine lv_iconst (v := 1) hx hb dX6_badBy_20 (by decide) ?_
  refine lv_icmp_le (tgt := 28) hx hb dX6_badBy_21 (by decide) (fun c_21 => ?_) (fun c_21 => ?_)
  · skip
    have n_21 : ¬ 1 < pcn d := g_gtF hpc (Int32.not_lt.mpr c_21)
    refine lv_aload_n hx hb dX6_badBy_28 rfl (lv_at hl 0 rfl) ?_
    refine g_get (TT := TX6) hc hw inX6_badBy_X6 0 13 1 rfl rfl (by decide) rfl rfl dX6_badBy_29 ?_
    refine lv_iconst (v := 1) hx hb dX6_badBy_32 (by decide) ?_
    refine g_ild hc hw 10 1 rfl rfl (by omega) (by decide) dX6_badBy_33 ?_
    refine W.eq (congrArg (fun z => F0 m 34 ls (.int z :: [.int 1, .ref ua])) (show ((pgF (wD S d)) 1 : Int32) = sM (wD S d) from rfl)) ?_
    refine g_ist hc hw 10 1 rfl rfl (by omega) (by decide) dX6_badBy_34 (fun H locs hw => ?_)
    have hw : g_W D A s [(o, .inr (6, [u0, u1, u2, .ref xa, .int (nI nw), .int (nI nf), .ref fa, u7, u8, u9, u10, .ref pa, .ref va, .ref ua, .ref ya, u15, u16, u17, u18, u19, u20, u21, u22, u23, u24, u25, u26, .ref wa, .ref la, .ref ta, .int (rS K), .int (rN K), .float (rH K), .ref ma, u34, .ref sa])), (xa, .inl (E 0, 12, .inl (g_tv 0))), (fa, .inl (E 0, 18, .inl fl)), (wa, .inl (E 0, 3, .inl (rW K))), (la, .inl (E 1, 4, .inr (.inr (.inl (rP K))))), (ta, .inl (E 1, 4, .inr (.inr (.inl (rT K))))), (ma, .inl (E 1, 3, .inr (.inr (.inl (rM K))))), (sa, .inl (E 0, 9, .inl (g_tv 1))), (pa, .inl (E 0, 29, .inl (pgF S))), (va, .inl (E 1, 5, .inr (.inr (.inl (fl5 S))))), (ua, .inl (E 0, 29, .inl (upd (pgF (wD S d)) 1 (sM (wD S d))))), (ya, .inl (E 1, 5, .inr (.inr (.inl (fl5 S)))))] H locs := hw
    rw [pg_M] at hw
    have hw : g_W D A s [(o, .inr (6, [u0, u1, u2, .ref xa, .int (nI nw), .int (nI nf), .ref fa, u7, u8, u9, u10, .ref pa, .ref va, .ref ua, .ref ya, u15, u16, u17, u18, u19, u20, u21, u22, u23, u24, u25, u26, .ref wa, .ref la, .ref ta, .int (rS K), .int (rN K), .float (rH K), .ref ma, u34, .ref sa])), (xa, .inl (E 0, 12, .inl (g_tv 0))), (fa, .inl (E 0, 18, .inl fl)), (wa, .inl (E 0, 3, .inl (rW K))), (la, .inl (E 1, 4, .inr (.inr (.inl (rP K))))), (ta, .inl (E 1, 4, .inr (.inr (.inl (rT K))))), (ma, .inl (E 1, 3, .inr (.inr (.inl (rM K))))), (sa, .inl (E 0, 9, .inl (g_tv 1))), (pa, .inl (E 0, 29, .inl (pgF S))), (va, .inl (E 1, 5, .inr (.inr (.inl (fl5 S))))), (ua, .inl (E 0, 29, .inl (pgF (wM (wD S d) (sM (wD S d)))))), (ya, .inl (E 1, 5, .inr (.inr (.inl (fl5 S)))))] H locs := hw
    rw [dv_0 S n_21] at hw
    have hw : g_W D A s [(o, .inr (6, [u0, u1, u2, .ref xa, .int (nI nw), .int (nI nf), .ref fa, u7, u8, u9, u10, .ref pa, .ref va, .ref ua, .ref ya, u15, u16, u17, u18, u19, u20, u21, u22, u23, u24, u25, u26, .ref wa, .ref la, .ref ta, .int (rS K), .int (rN K), .float (rH K), .ref ma, u34, .ref sa])), (xa, .inl (E 0, 12, .inl (g_tv 0))), (fa, .inl (E 0, 18, .inl fl)), (wa, .inl (E 0, 3, .inl (rW K))), (la, .inl (E 1, 4, .inr (.inr (.inl (rP K))))), (ta, .inl (E 1, 4, .inr (.inr (.inl (rT K))))), (ma, .inl (E 1, 3, .inr (.inr (.inl (rM K))))), (sa, .inl (E 0, 9, .inl (g_tv 1))), (pa, .inl (E 0, 29, .inl (pgF S))), (va, .inl (E 1, 5, .inr (.inr (.inl (fl5 S))))), (ua, .inl (E 0, 29, .inl (pgF (dvS S d)))), (ya, .inl (E 1, 5, .inr (.inr (.inl (fl5 (dvS S d))))))] H locs := by rw [fl_dv S d]; exact hw
    refine lv_aload_n hx hb dX6_badBy_35 rfl (lv_at hl 0 rfl) ?_
    refine g_cV (As := []) (n := 0) (rest := []) (wc := [(o, .inr (6, [u0, u1, u2, .ref xa, .int (nI nw), .int (nI nf), .ref fa, u7, u8, u9, u10, .ref pa, .ref va, .ref ua, .ref ya, u15, u16, u17, u18, u19, u20, u21, u22, u23, u24, u25, u26, .ref wa, .ref la, .ref ta, .int (rS K), .int (rN K), .float (rH K), .ref ma, u34, .ref sa])), (xa, .inl (E 0, 12, .inl (g_tv 0))), (fa, .inl (E 0, 18, .inl fl)), (wa, .inl (E 0, 3, .inl (rW K))), (la, .inl (E 1, 4, .inr (.inr (.inl (rP K))))), (ta, .inl (E 1, 4, .inr (.inr (.inl (rT K))))), (ma, .inl (E 1, 3, .inr (.inr (.inl (rM K))))), (sa, .inl (E 0, 9, .inl (g_tv 1))), (ua, .inl (E 0, 29, .inl (pgF (dvS S d)))), (ya, .inl (E 1, 5, .inr (.inr (.inl (fl5 (dvS S d))))))]) (w1 := [(o, .inr (6, [u0, u1, u2, .ref xa, .int (nI nw), .int (nI nf), .ref fa, u7, u8, u9, u10, .ref pa, .ref va, .ref ua, .ref ya, u15, u16, u17, u18, u19, u20, u21, u22, u23, u24, u25, u26, .ref wa, .ref la, .ref ta, .int (rS (rjN nw nf fl (x3F 0 0 0) (dvS S d) K 20)), .int (rN (rjN nw nf fl (x3F 0 0 0) (dvS S d) K 20)), .float (rH (rjN nw nf fl (x3F 0 0 0) (dvS S d) K 20)), .ref ma, u34, .ref sa])), (xa, .inl (E 0, 12, .inl (g_tv 0))), (fa, .inl (E 0, 18, .inl fl)), (wa, .inl (E 0, 3, .inl (rW (rjN nw nf fl (x3F 0 0 0) (dvS S d) K 20)))), (la, .inl (E 1, 4, .inr (.inr (.inl (rP (rjN nw nf fl (x3F 0 0 0) (dvS S d) K 20)))))), (ta, .inl (E 1, 4, .inr (.inr (.inl (rT (rjN nw nf fl (x3F 0 0 0) (dvS S d) K 20)))))), (ma, .inl (E 1, 3, .inr (.inr (.inl (rM (rjN nw nf fl (x3F 0 0 0) (dvS S d) K 20)))))), (sa, .inl (E 0, 9, .inl (g_tv 1))), (ua, .inl (E 0, 29, .inl (pgF (tkN nw nf fl (x3F 0 0 0) (dvS S d) 20)))), (ya, .inl (E 1, 5, .inr (.inr (.inl (fl5 (tkN nw nf fl (x3F 0 0 0) (dvS S d) 20))))))]) (bytes := cX6_badOnes) (maxL := 2) (ret := (some .int)) hc hw hl.1 (m_X6_badOnes (l := l) (D := D) (E := E) (T := T) o xa fa wa la ta ma sa nw nf ua ya B u0 u1 u2 u7 u8 u9 u10 (.ref pa) (.ref va) u15 u16 u17 u18 u19 u20 u21 u22 u23 u24 u25 u26 u34 fl (dvS S d) K (hok.dv hd) (by first | assumption | omega | decide) (by first | assumption | omega | decide) (by first | assumption | omega | decide)) gX6_badBy_X6_badOnes rfl (by decide +kernel) (by rw [hR]; exact ⟨Nat.le_of_ble_eq_true rfl, Nat.le_of_ble_eq_true rfl⟩) [0, 1, 2, 3, 4, 5, 6, 7, 10, 11] 0 6 rfl rfl (by decide) rfl [o, xa, fa, wa, la, ta, ma, sa, ua, ya] rfl rfl rfl rfl (Nat.le_of_ble_eq_true rfl) dX6_badBy_36 ⟨Nat.zero_le _, Nat.zero_le _⟩ (fun H locs hw => ?_)
    have hw : g_W D A s [(o, .inr (6, [u0, u1, u2, .ref xa, .int (nI nw), .int (nI nf), .ref fa, u7, u8, u9, u10, .ref pa, .ref va, .ref ua, .ref ya, u15, u16, u17, u18, u19, u20, u21, u22, u23, u24, u25, u26, .ref wa, .ref la, .ref ta, .int (rS (rjN nw nf fl (x3F 0 0 0) (dvS S d) K 20)), .int (rN (rjN nw nf fl (x3F 0 0 0) (dvS S d) K 20)), .float (rH (rjN nw nf fl (x3F 0 0 0) (dvS S d) K 20)), .ref ma, u34, .ref sa])), (xa, .inl (E 0, 12, .inl (g_tv 0))), (fa, .inl (E 0, 18, .inl fl)), (wa, .inl (E 0, 3, .inl (rW (rjN nw nf fl (x3F 0 0 0) (dvS S d) K 20)))), (la, .inl (E 1, 4, .inr (.inr (.inl (rP (rjN nw nf fl (x3F 0 0 0) (dvS S d) K 20)))))), (ta, .inl (E 1, 4, .inr (.inr (.inl (rT (rjN nw nf fl (x3F 0 0 0) (dvS S d) K 20)))))), (ma, .inl (E 1, 3, .inr (.inr (.inl (rM (rjN nw nf fl (x3F 0 0 0) (dvS S d) K 20)))))), (sa, .inl (E 0, 9, .inl (g_tv 1))), (pa, .inl (E 0, 29, .inl (pgF S))), (va, .inl (E 1, 5, .inr (.inr (.inl (fl5 S))))), (ua, .inl (E 0, 29, .inl (pgF (tkN nw nf fl (x3F 0 0 0) (dvS S d) 20)))), (ya, .inl (E 1, 5, .inr (.inr (.inl (fl5 (tkN nw nf fl (x3F 0 0 0) (dvS S d) 20))))))] H locs := hw
    exact g_iret hQ hc hw hr rfl rfl dX6_badBy_39
  · skip
    have n_21 : 1 < pcn d := g_gtT hpc (Int32.not_le.mp c_21)
    refine lv_iconst (v := 1) hx hb dX6_badBy_24 (by decide) ?_
    refine lv_goto (tgt := 34) hx hb dX6_badBy_25 (by decide) ?_
    refine g_ist hc hw 10 1 rfl rfl (by omega) (by decide) dX6_badBy_34 (fun H locs hw => ?_)
    have hw : g_W D A s [(o, .inr (6, [u0, u1, u2, .ref xa, .int (nI nw), .int (nI nf), .ref fa, u7, u8, u9, u10, .ref pa, .ref va, .ref ua, .ref ya, u15, u16, u17, u18, u19, u20, u21, u22, u23, u24, u25, u26, .ref wa, .ref la, .ref ta, .int (rS K), .int (rN K), .float (rH K), .ref ma, u34, .ref sa])), (xa, .inl (E 0, 12, .inl (g_tv 0))), (fa, .inl (E 0, 18, .inl fl)), (wa, .inl (E 0, 3, .inl (rW K))), (la, .inl (E 1, 4, .inr (.inr (.inl (rP K))))), (ta, .inl (E 1, 4, .inr (.inr (.inl (rT K))))), (ma, .inl (E 1, 3, .inr (.inr (.inl (rM K))))), (sa, .inl (E 0, 9, .inl (g_tv 1))), (pa, .inl (E 0, 29, .inl (pgF S))), (va, .inl (E 1, 5, .inr (.inr (.inl (fl5 S))))), (ua, .inl (E 0, 29, .inl (upd (pgF (wD S d)) 1 1))), (ya, .inl (E 1, 5, .inr (.inr (.inl (fl5 S)))))] H locs := hw
    rw [pg_M] at hw
    have hw : g_W D A s [(o, .inr (6, [u0, u1, u2, .ref xa, .int (nI nw), .int (nI nf), .ref fa, u7, u8, u9, u10, .ref pa, .ref va, .ref ua, .ref ya, u15, u16, u17, u18, u19, u20, u21, u22, u23, u24, u25, u26, .ref wa, .ref la, .ref ta, .int (rS K), .int (rN K), .float (rH K), .ref ma, u34, .ref sa])), (xa, .inl (E 0, 12, .inl (g_tv 0))), (fa, .inl (E 0, 18, .inl fl)), (wa, .inl (E 0, 3, .inl (rW K))), (la, .inl (E 1, 4, .inr (.inr (.inl (rP K))))), (ta, .inl (E 1, 4, .inr (.inr (.inl (rT K))))), (ma, .inl (E 1, 3, .inr (.inr (.inl (rM K))))), (sa, .inl (E 0, 9, .inl (g_tv 1))), (pa, .inl (E 0, 29, .inl (pgF S))), (va, .inl (E 1, 5, .inr (.inr (.inl (fl5 S))))), (ua, .inl (E 0, 29, .inl (pgF (wM (wD S d) 1)))), (ya, .inl (E 1, 5, .inr (.inr (.inl (fl5 S)))))] H locs := hw
    rw [dv_1 S n_21] at hw
    have hw : g_W D A s [(o, .inr (6, [u0, u1, u2, .ref xa, .int (nI nw), .int (nI nf), .ref fa, u7, u8, u9, u10, .ref pa, .ref va, .ref ua, .ref ya, u15, u16, u17, u18, u19, u20, u21, u22, u23, u24, u25, u26, .ref wa, .ref la, .ref ta, .int (rS K), .int (rN K), .float (rH K), .ref ma, u34, .ref sa])), (xa, .inl (E 0, 12, .inl (g_tv 0))), (fa, .inl (E 0, 18, .inl fl)), (wa, .inl (E 0, 3, .inl (rW K))), (la, .inl (E 1, 4, .inr (.inr (.inl (rP K))))), (ta, .inl (E 1, 4, .inr (.inr (.inl (rT K))))), (ma, .inl (E 1, 3, .inr (.inr (.inl (rM K))))), (sa, .inl (E 0, 9, .inl (g_tv 1))), (pa, .inl (E 0, 29, .inl (pgF S))), (va, .inl (E 1, 5, .inr (.inr (.inl (fl5 S))))), (ua, .inl (E 0, 29, .inl (pgF (dvS S d)))), (ya, .inl (E 1, 5, .inr (.inr (.inl (fl5 (dvS S d))))))] H locs := by rw [fl_dv S d]; exact hw
    refine lv_aload_n hx hb dX6_badBy_35 rfl (lv_at hl 0 rfl) ?_
    refine g_cV (As := []) (n := 0) (rest := []) (wc := [(o, .inr (6, [u0, u1, u2, .ref xa, .int (nI nw), .int (nI nf), .ref fa, u7, u8, u9, u10, .ref pa, .ref va, .ref ua, .ref ya, u15, u16, u17, u18, u19, u20, u21, u22, u23, u24, u25, u26, .ref wa, .ref la, .ref ta, .int (rS K), .int (rN K), .float (rH K), .ref ma, u34, .ref sa])), (xa, .inl (E 0, 12, .inl (g_tv 0))), (fa, .inl (E 0, 18, .inl fl)), (wa, .inl (E 0, 3, .inl (rW K))), (la, .inl (E 1, 4, .inr (.inr (.inl (rP K))))), (ta, .inl (E 1, 4, .inr (.inr (.inl (rT K))))), (ma, .inl (E 1, 3, .inr (.inr (.inl (rM K))))), (sa, .inl (E 0, 9, .inl (g_tv 1))), (ua, .inl (E 0, 29, .inl (pgF (dvS S d)))), (ya, .inl (E 1, 5, .inr (.inr (.inl (fl5 (dvS S d))))))]) (w1 := [(o, .inr (6, [u0, u1, u2, .ref xa, .int (nI nw), .int (nI nf), .ref fa, u7, u8, u9, u10, .ref pa, .ref va, .ref ua, .ref ya, u15, u16, u17, u18, u19, u20, u21, u22, u23, u24, u25, u26, .ref wa, .ref la, .ref ta, .int (rS (rjN nw nf fl (x3F 0 0 0) (dvS S d) K 20)), .int (rN (rjN nw nf fl (x3F 0 0 0) (dvS S d) K 20)), .float (rH (rjN nw nf fl (x3F 0 0 0) (dvS S d) K 20)), .ref ma, u34, .ref sa])), (xa, .inl (E 0, 12, .inl (g_tv 0))), (fa, .inl (E 0, 18, .inl fl)), (wa, .inl (E 0, 3, .inl (rW (rjN nw nf fl (x3F 0 0 0) (dvS S d) K 20)))), (la, .inl (E 1, 4, .inr (.inr (.inl (rP (rjN nw nf fl (x3F 0 0 0) (dvS S d) K 20)))))), (ta, .inl (E 1, 4, .inr (.inr (.inl (rT (rjN nw nf fl (x3F 0 0 0) (dvS S d) K 20)))))), (ma, .inl (E 1, 3, .inr (.inr (.inl (rM (rjN nw nf fl (x3F 0 0 0) (dvS S d) K 20)))))), (sa, .inl (E 0, 9, .inl (g_tv 1))), (ua, .inl (E 0, 29, .inl (pgF (tkN nw nf fl (x3F 0 0 0) (dvS S d) 20)))), (ya, .inl (E 1, 5, .inr (.inr (.inl (fl5 (tkN nw nf fl (x3F 0 0 0) (dvS S d) 20))))))]) (bytes := cX6_badOnes) (maxL := 2) (ret := (some .int)) hc hw hl.1 (m_X6_badOnes (l := l) (D := D) (E := E) (T := T) o xa fa wa la ta ma sa nw nf ua ya B u0 u1 u2 u7 u8 u9 u10 (.ref pa) (.ref va) u15 u16 u17 u18 u19 u20 u21 u22 u23 u24 u25 u26 u34 fl (dvS S d) K (hok.dv hd) (by first | assumption | omega | decide) (by first | assumption | omega | decide) (by first | assumption | omega | decide)) gX6_badBy_X6_badOnes rfl (by decide +kernel) (by rw [hR]; exact ⟨Nat.le_of_ble_eq_true rfl, Nat.le_of_ble_eq_true rfl⟩) [0, 1, 2, 3, 4, 5, 6, 7, 10, 11] 0 6 rfl rfl (by decide) rfl [o, xa, fa, wa, la, ta, ma, sa, ua, ya] rfl rfl rfl rfl (Nat.le_of_ble_eq_true rfl) dX6_badBy_36 ⟨Nat.zero_le _, Nat.zero_le _⟩ (fun H locs hw => ?_)
    have hw : g_W D A s [(o, .inr (6, [u0, u1, u2, .ref xa, .int (nI nw), .int (nI nf), .ref fa, u7, u8, u9, u10, .ref pa, .ref va, .ref ua, .ref ya, u15, u16, u17, u18, u19, u20, u21, u22, u23, u24, u25, u26, .ref wa, .ref la, .ref ta, .int (rS (rjN nw nf fl (x3F 0 0 0) (dvS S d) K 20)), .int (rN (rjN nw nf fl (x3F 0 0 0) (dvS S d) K 20)), .float (rH (rjN nw nf fl (x3F 0 0 0) (dvS S d) K 20)), .ref ma, u34, .ref sa])), (xa, .inl (E 0, 12, .inl (g_tv 0))), (fa, .inl (E 0, 18, .inl fl)), (wa, .inl (E 0, 3, .inl (rW (rjN nw nf fl (x3F 0 0 0) (dvS S d) K 20)))), (la, .inl (E 1, 4, .inr (.inr (.inl (rP (rjN nw nf fl (x3F 0 0 0) (dvS S d) K 20)))))), (ta, .inl (E 1, 4, .inr (.inr (.inl (rT (rjN nw nf fl (x3F 0 0 0) (dvS S d) K 20)))))), (ma, .inl (E 1, 3, .inr (.inr (.inl (rM (rjN nw nf fl (x3F 0 0 0) (dvS S d) K 20)))))), (sa, .inl (E 0, 9, .inl (g_tv 1))), (pa, .inl (E 0, 29, .inl (pgF S))), (va, .inl (E 1, 5, .inr (.inr (.inl (fl5 S))))), (ua, .inl (E 0, 29, .inl (pgF (tkN nw nf fl (x3F 0 0 0) (dvS S d) 20)))), (ya, .inl (E 1, 5, .inr (.inr (.inl (fl5 (tkN nw nf fl (x3F 0 0 0) (dvS S d) 20))))))] H locs := hw
    exact g_iret hQ hc hw hr rfl rfl dX6_badBy_39
end P23
