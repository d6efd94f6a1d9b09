/-! MY ROWS 13: the law, from its entry -/
/-! THE CLAIM OUT OF ONE WALK OF THE LAW'S BODY. Your part is whole_start (and what it stands on); all else here is the same for every law, but numbers. -/
def R_law : String := "SpinWheelsLaw"
def lw_P (b : Addr) (xs : List Int32) (args : Array Value) (s : State) : Prop := args = #[.ref b] ∧ s.IntsAt b xs ∧ xs.length ≤ 2560 ∧ (Jvm.Cond.and given_1 narrow_1).before args s = true
/-- what a walk over the start with the record d0 says of its end, said of the start itself -/
theorem lw_closed {s t : State} {o : Outcome} {d0 : Drawn} {L : List Loc} {k n : Nat} (hd0 : s.drawn.sameBut d0 lw_cs) (hv : ∃ v, o = .returned v) (hW : (s.setDrawn d0).WarmedH t.vm) (hs : (s.setDrawn d0).sameButNew ({ t with vm := s.vm } : State) L k n) : State.butDraws s t lw_cs (fun t1 => Framed s o t1 L k n) := by
  have h2 : t.drawn = d0 := congrArg State.drawn hs.1
  refine ⟨⟨hv, hW, State.sameButNew.setDrawn hs s.drawn⟩, ?_, by decide⟩
  rw [h2]
  exact hd0
def lw_Q (_ : Array Value) (s : State) (o : Outcome) (t : State) : Prop := o = .returned (some (.int 1)) ∧ State.butDraws s t lw_cs (fun t1 => Framed s o t1 [] 600000 7302250)
def lw_Z (below : List Frame) (a : Array Value) (s : State) : State → Prop := fun t => ∃ o, t.status = .running ∧ Ended t below o ∧ lw_Q a s o t
/-- the law's own end, with 1 on the stack, nothing written that was there before, its room as the claim has it; d0: the record of draws at this point (at the entry s.drawn: begin with 'refine W.base ?_' and 'have hd0 := Drawn.sameBut.refl s.drawn lw_cs') -/
theorem lw_ret {p : Program} {l : Launch} {e : Env} {s : State} {m : MethodId} {below : List Frame} {meth : Method} {c : Code} {b : Nat} {d0 : Drawn} (hd0 : s.drawn.sameBut d0 lw_cs) (hx : p.tables.exec = Jvm.exec) (hb : c.code = code) (hr : meth.sig.returnType = ret) (hlocks : meth.locks = false) {pc : Nat} {H : Heap} {ls : Array Slot} (hdg : decode code pc = .ok (.ireturn, 1)) : W p l e room_1 (s.setDrawn d0) m #[Value.ref b] below meth c H [] 600000 7302250 (lw_Z below #[Value.ref b] s) (F0 m pc ls [.int 1]) := by
  intro T hT X
  obtain ⟨fs, hret, hrun, hended, hW, hframe⟩ := X.leave (v := some (.int 1)) (hlocks := hlocks) (fun h => by rw [hr] at h; cases h)
  have hmeth' : T.vm.method? m = some meth := X.method'
  refine ⟨T.setFrames fs, ?_, .returned (some (.int 1)), hrun, hended, rfl, lw_closed hd0 ⟨_, rfl⟩ hW hframe⟩
  jvm_step X.here [X.here.top, hx, hb, hdg, hmeth', hr, ret, narrow_b1]
  (try refine ⟨rfl, ?_⟩); (try refine ⟨rfl, ?_⟩)
  first | (intro acts; rw [hret _ acts rfl rfl rfl]) | rw [hret _ _ rfl rfl rfl]
  exact Steps.refl _
/-- what holds at the law's entry: the machine, the code, the tables' words (any of lw_tbl by 'hts w (by decide +kernel)'), the script of L ints xs at the cell b, what the Statement gives of the start (any of its parts by flat_of_before) -/
def lw_At (p : Program) (s : State) (m : MethodId) (meth : Method) (c : Code) (b L : Nat) (xs : Nat → Int32) : Prop :=
  p.tables.exec = Jvm.exec ∧ c.code = code ∧ meth.sig.returnType = ret ∧ c.maxLocals = 4 ∧ s.vm.findClass R_law = some m.cls ∧ (∀ w ∈ lw_tbl, w.before #[Value.ref b] s = true) ∧ va_X b L xs s s.heap ∧ b < s.heap.size ∧ meth.locks = false ∧ (Jvm.Cond.and given_1 narrow_1).before #[Value.ref b] s = true
section GEntry
set_option maxRecDepth 20000 in
theorem g_nW_in : ∀ w ∈ g_nW, w ∈ lw_tbl := g_memr [85, 91, 100, 105, 106, 107, 108, 110, 111, 117, 119, 121, 123, 149, 153, 159, 160, 161, 163, 164, 165, 167, 168, 169, 171, 172, 174, 175, 176, 178, 179, 181, 182, 183, 185, 186, 188, 189, 191, 192, 194, 195, 221, 227, 230, 242, 247, 302, 314, 325, 329, 341, 364, 378, 382, 387, 391, 398, 410, 420, 421, 435, 441, 450, 457, 471, 480, 485, 509, 517, 518, 519, 532, 541, 550, 554, 582, 585, 601, 609, 619, 647, 650] (by decide +kernel)
theorem inT_X0 : ∀ w ∈ u_ws RX0 TX0 3, w ∈ lw_tbl := by decide +kernel
theorem inT_X1 : ∀ w ∈ u_ws RX1 TX1 10, w ∈ lw_tbl := by decide +kernel
theorem inT_X2 : ∀ w ∈ u_ws RX2 TX2 2, w ∈ lw_tbl := by decide +kernel
theorem inT_X3 : ∀ w ∈ u_ws RX3 TX3 4, w ∈ lw_tbl := by decide +kernel
theorem inT_X4 : ∀ w ∈ u_ws RX4 TX4 11, w ∈ lw_tbl := by decide +kernel
theorem inT_X5 : ∀ w ∈ u_ws RX5 TX5 11, w ∈ lw_tbl := by decide +kernel
theorem inT_X6 : ∀ w ∈ u_ws RX6 TX6 36, w ∈ lw_tbl := by decide +kernel
theorem lw_Ns {s : State} {av : Array Value} (hts : ∀ w ∈ lw_tbl, w.before av s = true) : g_Ns s := fun w hw => va_Nw.of (g_isN_tab (g_isN_at hw)) (hts w (g_nW_in w hw))
theorem st_arr : ∀ k, k < 5 → Cond.arrayOf (.static "SpinWheels" (g_tn k) "[I") .int ∈ flatC (Jvm.Cond.and given_1 narrow_1) := by decide +kernel
theorem st_len : ∀ k, k < 5 → Cond.eq (.length (.static "SpinWheels" (g_tn k) "[I")) (.int (Int32.ofNat (g_tz k))) ∈ flatC (Jvm.Cond.and given_1 narrow_1) := by decide +kernel
theorem st_el : ∀ k, k < 5 → ∀ j, j < g_tz k → Cond.eq (.elem (.static "SpinWheels" (g_tn k) "[I") (.int (Int32.ofNat j))) (.int (g_tv k j)) ∈ flatC (Jvm.Cond.and given_1 narrow_1) := by decide +kernel
theorem st_lay : ∀ k, k < 5 → Cond.laysStatic "SpinWheels" (g_tn k) "[I" ∈ lw_tbl := by decide +kernel
theorem st_ini : Cond.initialized "SpinWheels" ∈ lw_tbl := by decide +kernel
theorem g_tz_lt : ∀ k, g_tz k < 2 ^ 31 := by
  intro k
  unfold g_tz
  split <;> decide
theorem law_St {s : State} {av : Array Value} (hts : ∀ w ∈ lw_tbl, w.before av s = true) (hgv : (Jvm.Cond.and given_1 narrow_1).before av s = true) : ∃ T : Nat → Nat, g_St T (lwA s) s s.heap := by
  have hs := flat_of_before _ hgv
  have h0 : ∀ k : Nat, ∃ t : Nat, k < 5 → va_Z "SpinWheels" (g_tn k) "[I" (.ref t) (lwA s) s s.heap ∧ va_T .int t (g_tz k) (fun j => .int (g_tv k j)) (lwA s) s s.heap := by
    intro k
    by_cases hk : k < 5
    · obtain ⟨t, ht, hT⟩ := va_Tof (tm := .static "SpinWheels" (g_tn k) "[I") (N := g_tz k) (f := fun j => .int (g_tv k j)) (A := lwA s) (g_tz_lt k) (hs _ (st_arr k hk)) (va_eqt (hs _ (st_len k hk))) (fun j hj => va_eqt (hs _ (st_el k hk j hj))) (fun a h => Nat.not_le.mpr h)
      exact ⟨t, fun _ => ⟨va_Zof (hts _ (st_lay k hk)) (hts _ st_ini) ht (fun a h => Nat.not_le.mpr h), hT⟩⟩
    · exact ⟨0, fun h => absurd h hk⟩
  exact ⟨fun k => (h0 k).choose, fun k hk => (h0 k).choose_spec hk⟩
theorem law_arr {s : State} {av : Array Value} {ty : FieldType} (h : (Cond.arrayClass ty).before av s = true) (hR : ∀ cA, s.vm.findClass ("[" ++ ty.toString) = some cA → va_RA s cA ty) : ∃ cA, ArrOfT s cA ty ∧ va_RA s cA ty := by
  obtain ⟨cA, kA, comp, h1, h2, h3⟩ := Cond.arrayClass_spec h
  exact ⟨cA, fun N z => ⟨fun k h => (by cases h), kA, h2, comp, h3⟩, hR cA h1⟩
theorem law_arq {s : State} {C : String} (h : va_AO C s) : ∃ cA, ArrOfT s cA (.object C) ∧ va_RA s cA (.object C) := by
  obtain ⟨comp, cA, kA, h1, h2, h3, h4, h5⟩ := Cond.arrayOver_spec (va_AO.use (A := #[]) h)
  exact ⟨cA, fun N z => ⟨(fun k h => by cases h), kA, h3, comp, h4⟩, kA, comp, h3, h4, h1, h5⟩
theorem law_K {s : State} {av : Array Value} (hts : ∀ w ∈ lw_tbl, w.before av s = true) : g_AO s ∧ ∃ (D : va_G) (E : Nat → ClassId), va_K D vwCl (g_Ty E) s := by
  have hA1 : va_AO "SpinWheels$State" s := va_AO.of (hts (.arrayOver (.object "SpinWheels$State")) (by decide +kernel))
  have hA2 : va_AO "SpinWheels$Sight" s := va_AO.of (hts (.arrayOver (.object "SpinWheels$Sight")) (by decide +kernel))
  obtain ⟨c0, i0, k0⟩ := u_known (C := RX0) (T := TX0) (N := 3) (n := 3) hts inT_X0 (hts (.instantiable RX0 3) (by decide +kernel))
  obtain ⟨c1, i1, k1⟩ := u_known (C := RX1) (T := TX1) (N := 10) (n := 10) hts inT_X1 (hts (.instantiable RX1 10) (by decide +kernel))
  obtain ⟨c2, i2, k2⟩ := u_known (C := RX2) (T := TX2) (N := 2) (n := 2) hts inT_X2 (hts (.instantiable RX2 2) (by decide +kernel))
  obtain ⟨c3, i3, k3⟩ := u_known (C := RX3) (T := TX3) (N := 4) (n := 4) hts inT_X3 (hts (.instantiable RX3 4) (by decide +kernel))
  obtain ⟨c4, i4, k4⟩ := u_known (C := RX4) (T := TX4) (N := 11) (n := 11) hts inT_X4 (hts (.instantiable RX4 11) (by decide +kernel))
  obtain ⟨c5, i5, k5⟩ := u_known (C := RX5) (T := TX5) (N := 11) (n := 11) hts inT_X5 (hts (.instantiable RX5 11) (by decide +kernel))
  obtain ⟨c6, i6, k6⟩ := u_known (C := RX6) (T := TX6) (N := 36) (n := 36) hts inT_X6 (hts (.instantiable RX6 36) (by decide +kernel))
  obtain ⟨e0, p0, q0⟩ := law_arr (hts (.arrayClass .int) (by decide +kernel)) (fun _ h => h)
  obtain ⟨e1, p1, q1⟩ := law_arr (hts (.arrayClass .float) (by decide +kernel)) (fun _ h => h)
  obtain ⟨e2, p2, q2⟩ := law_arr (hts (.arrayClass .char) (by decide +kernel)) (fun _ h => h)
  obtain ⟨e3, p3, q3⟩ := law_arr (hts (.arrayClass .boolean) (by decide +kernel)) (fun _ h => h)
  obtain ⟨e4, p4, q4⟩ := law_arq hA1
  obtain ⟨e5, p5, q5⟩ := law_arq hA2
  refine ⟨⟨hA1, hA2⟩, (fun k => match k with | 0 => c0 | 1 => c1 | 2 => c2 | 3 => c3 | 4 => c4 | 5 => c5 | _ => c6, fun k => match k with | 0 => i0 | 1 => i1 | 2 => i2 | 3 => i3 | 4 => i4 | 5 => i5 | _ => i6), (fun k => match k with | 0 => e0 | 1 => e1 | 2 => e2 | 3 => e3 | 4 => e4 | _ => e5), ?_, ?_⟩
  · intro k q hq
    match k, hq with
    | 0, hq => cases hq; exact k0
    | 1, hq => cases hq; exact k1
    | 2, hq => cases hq; exact k2
    | 3, hq => cases hq; exact k3
    | 4, hq => cases hq; exact k4
    | 5, hq => cases hq; exact k5
    | 6, hq => cases hq; exact k6
    | k + 7, hq => simp [vwCl] at hq
  · intro k q hq
    match k, hq with
    | 0, hq => cases hq; exact ⟨p0, q0⟩
    | 1, hq => cases hq; exact ⟨p1, q1⟩
    | 2, hq => cases hq; exact ⟨p2, q2⟩
    | 3, hq => cases hq; exact ⟨p3, q3⟩
    | 4, hq => cases hq; exact ⟨p4, q4⟩
    | 5, hq => cases hq; exact ⟨p5, q5⟩
    | k + 6, hq => simp at hq
def iniU : TS := (fun _ => FP.fconst0, fun _ => 0, fun _ => 0, 0, 0, FP.fconst0, 0, 0, 0, 0, 0)
def iniC : CS := (fun _ => 0, 0, 0, 0, fun _ => 0, fun _ => 0, (fun _ => 0, fun _ => FP.fconst0, fun _ => FP.fconst0, 0, 0, FP.fconst0), iniS, iniS, 0, 0, fun _ => iniS, fun _ => 0, fun _ => iniS, 0, fun _ => (0, 0, 0, false), fun _ => 0, 0)
def iniR : RS := (fun _ => 0, 0, 0, 0, fun _ => 0, fun _ => 0, fun _ => 0, 0, 0, (fun _ => 0, fun _ => FP.fconst0, fun _ => FP.fconst0, 0, 0, FP.fconst0, fun _ => FP.fconst0), iniS, iniU, fun _ => 0, fun _ => FP.fconst0, 0, fun _ => 0, fun _ => FP.fconst0, fun _ => 0, 0, fun _ => 0, fun _ => 0, fun _ => 0, fun _ => 0, fun _ => 0, 0)
theorem ini_x : (fun _ => 0 : Nat → Int32) = x3F 0 0 0 := by
  funext j
  unfold x3F
  split <;> rfl
theorem ini_inv : Inv 0 iniC iniR :=
  ⟨⟨rfl, rfl, Nat.zero_le _, fun _ => by show 0 < 256; omega⟩, ⟨rfl, rfl, Nat.zero_le _, Nat.zero_le _, fun _ _ => rfl, ini_x⟩, ⟨OkS.ini 0, fun _ => 0, rfl, fun _ _ => rfl⟩, ⟨rfl, Nat.zero_le _, by show 0 < 14; omega, fun _ _ => OkS.ini 0, fun k hk => absurd hk (Nat.not_lt_zero k)⟩, fun k _ => ⟨OkS.ini 0, rfl, Or.inl rfl, fun z => absurd z (by show ¬ (0 : Int32) = 1; decide)⟩, ⟨rfl, Nat.zero_le _, fun _ => ⟨Nat.zero_le _, Nat.zero_le _, Nat.zero_le _, fun z => absurd z (by show ¬ (0 : Nat) = 2; decide)⟩, rfl, rfl, rfl, rfl⟩, rfl⟩
theorem ini_fl (S : TS) (hp : sP S = FP.fconst0) (hf : ∀ j, sF S j = FP.fconst0) : ∀ j, FP.fconst0 = fl5 S j := by
  intro j
  unfold fl5
  split
  · exact hp.symm
  · exact (hf j).symm
theorem ini_pg : ∀ j, (0 : Int32) = pgF iniU j := by
  intro j
  match j with
  | 0 | 1 | 2 | 3 | 4 | 5 | 6 | 7 | 8 | 9 | 10 => rfl
  | k + 11 => rfl
set_option maxRecDepth 20000 in
theorem ggL_law_X5_init : GoodIn wsL_law wsX5_init := goodIn_b lawB_in _ [(0, 9), (0, 10), (0, 11), (0, 12), (0, 13), (0, 14), (0, 15), (0, 16), (0, 17), (0, 18), (0, 19), (0, 20), (0, 21), (0, 22), (0, 23), (1, 0), (1, 1), (1, 2), (1, 3), (1, 4), (1, 5), (1, 6), (1, 7), (1, 8), (1, 9), (1, 10), (1, 11), (1, 12), (1, 13), (1, 14), (1, 15), (1, 16), (1, 17), (1, 18), (1, 19), (1, 20), (1, 21), (1, 22), (1, 23), (2, 0), (2, 1), (2, 2), (2, 3), (2, 4), (2, 5), (2, 6), (2, 7), (2, 8), (2, 9), (2, 10), (2, 11), (2, 12), (2, 13), (2, 14), (2, 15), (2, 16), (2, 17), (2, 18), (2, 19), (2, 20), (2, 21), (2, 22), (35, 0), (35, 1), (33, 0), (33, 1), (33, 2), (33, 3), (33, 4), (33, 5), (33, 6), (33, 7), (33, 8), (33, 9), (33, 10), (36, 0), (36, 1), (36, 2), (36, 3), (36, 4), (36, 5), (36, 6), (36, 7), (36, 8), (36, 9), (37, 0), (37, 1), (37, 2), (37, 3), (37, 4), (37, 5), (37, 6), (37, 7), (37, 8), (37, 9), (37, 10), (38, 0), (38, 1), (38, 2), (39, 0), (39, 1), (39, 2), (39, 3)] rfl (by decide +kernel)
set_option maxRecDepth 20000 in
theorem gL_law_X5_init : GoodIn wsL_law (wsX5_init) := ggL_law_X5_init
set_option maxRecDepth 20000 in
theorem ggL_law_X6_init : GoodIn wsL_law wsX6_init := goodIn_b lawB_in _ [(3, 1), (3, 2), (0, 11), (0, 12), (1, 11), (3, 3), (3, 4), (3, 5), (3, 6), (3, 7), (3, 8), (2, 2), (3, 9), (3, 10), (3, 11), (3, 12), (3, 13), (3, 14), (3, 15), (1, 7), (3, 16), (3, 17), (3, 18), (3, 19), (3, 20), (3, 21), (3, 22), (3, 23), (4, 0), (4, 1), (4, 2), (4, 3), (4, 4), (0, 5), (4, 5), (34, 0), (34, 1), (34, 2), (34, 3), (34, 4), (34, 5), (34, 6), (34, 7), (34, 8), (34, 9), (34, 10), (34, 11), (34, 12), (34, 13), (34, 14), (34, 15), (34, 16), (34, 17), (34, 18), (34, 19), (34, 20), (34, 21), (34, 22), (34, 23), (34, 24), (34, 25), (34, 26), (34, 27), (34, 28), (34, 29), (34, 30), (34, 31), (34, 32), (34, 33), (34, 34), (34, 35)] rfl (by decide +kernel)
set_option maxRecDepth 20000 in
theorem gL_law_X6_init : GoodIn wsL_law (wsX6_init) := ggL_law_X6_init
theorem dL_law_0 : decode cL_law 0 = .ok (.new 7, 3) := by decide +kernel
theorem dL_law_3 : decode cL_law 3 = .ok (.dup, 1) := by decide +kernel
theorem dL_law_4 : decode cL_law 4 = .ok (.invokespecial 9, 3) := by decide +kernel
theorem dL_law_7 : decode cL_law 7 = .ok (.astore_n 1, 1) := by decide +kernel
theorem dL_law_8 : decode cL_law 8 = .ok (.new 10, 3) := by decide +kernel
theorem dL_law_11 : decode cL_law 11 = .ok (.dup, 1) := by decide +kernel
theorem dL_law_12 : decode cL_law 12 = .ok (.invokespecial 12, 3) := by decide +kernel
theorem dL_law_15 : decode cL_law 15 = .ok (.astore_n 2, 1) := by decide +kernel
theorem dL_law_16 : decode cL_law 16 = .ok (.iconst 0, 1) := by decide +kernel
theorem dL_law_17 : decode cL_law 17 = .ok (.istore_n 3, 1) := by decide +kernel
theorem dL_law_1077 : decode cL_law 1077 = .ok (.iconst 1, 1) := by decide +kernel
theorem dL_law_1078 : decode cL_law 1078 = .ok (.ireturn, 1) := by decide +kernel
theorem inL_X5 : ∀ w ∈ u_ws RX5 TX5 11, w ∈ wsL_law := by decide +kernel
theorem inL_X6 : ∀ w ∈ u_ws RX6 TX6 36, w ∈ wsL_law := by decide +kernel
end GEntry
set_option maxRecDepth 100000 in
set_option maxHeartbeats 40000000 in
theorem whole_start {p : Program} {e : Env} {s : State} {m : MethodId} {below : List Frame} {meth : Method} {c : Code} (l : Launch) (hflags : l.flags = flags0) {b L : Nat} {xs : Nat → Int32} (hL : L ≤ 2560) (C0 : lw_At p s m meth c b L xs) : W p l e room_1 s m #[Value.ref b] below meth c s.heap [] 0 0 (lw_Z below #[Value.ref b] s) (entryFrame m ([Value.ref b] : List Value).toArray 4) := by
  obtain ⟨hx, hb, hr, hml, hown, hts, hX, hbl, hlocks, hgv⟩ := C0
  obtain ⟨hAO, D, E, hK⟩ := law_K hts
  obtain ⟨T, hSt⟩ := law_St hts hgv
  have hc : g_C p s m #[Value.ref b] meth c code RL wsL_law 4 D E T (lwA s) := ⟨hx, hb, hml, fun w hw => hts w (wsL_law_in w hw), hown, hK, hSt, lw_Ns hts, fun _ h => h, hlocks⟩
  have hw : g_W D (lwA s) s [] s.heap [] := ⟨fun k q h => by simp at h, ⟨fun i j p q h => by simp at h, fun k q h => by simp at h⟩, va_S.rf⟩
  have hl := lv_entry ([.ref b]) (n := 4) (Nat.le_of_ble_eq_true rfl)
  rw [lg_entry_eq]
  generalize (lg_sl ([.ref b]) ++ List.replicate (4 - (lg_sl ([.ref b])).length) Slot.unset).toArray = ls at hl ⊢
  have hl : lv_has ls 4 [(0, .ref b)] := hl
  refine g_new (ci := 5) (fs := [.null, .null, .null, .null, .null, .null, .null, .null, .null, .int 0, .long 0]) (TT := TX5) (N := 11) hc hw inL_X5 tyX5 tyX5_ok 0 1 2 rfl rfl rfl rfl (fun j hj => by rcases (show j = 0 ∨ j = 1 ∨ j = 2 ∨ j = 3 ∨ j = 4 ∨ j = 5 ∨ j = 6 ∨ j = 7 ∨ j = 8 ∨ j = 9 ∨ j = 10 by omega) with rfl | rfl | rfl | rfl | rfl | rfl | rfl | rfl | rfl | rfl | rfl <;> rfl) (Nat.le_of_ble_eq_true rfl) (Nat.le_of_ble_eq_true rfl) dL_law_0 (fun ob H hw => ?_)
  refine lv_dup hx hb dL_law_3 rfl ?_
  refine g_cNI (ws := []) (b := ob) (eb := .inr (5, [.null, .null, .null, .null, .null, .null, .null, .null, .null, .int 0, .long 0])) (bytes := cX5_init) (maxL := 2) (rest := [.ref ob]) hc hAO hw hl.1 (m_X5_init (l := l) (D := D) (E := E) (T := T) ob) gL_law_X5_init rfl (hts (.methodLink RL 9 yX5_init) (by decide +kernel)) (hts (.initialized RX5) (by decide +kernel)) (hts (.instanceMethod yX5_init) (by decide +kernel)) rfl (by decide +kernel) ⟨Nat.le_of_ble_eq_true rfl, Nat.le_of_ble_eq_true rfl⟩ rfl (Nat.le_of_ble_eq_true rfl) dL_law_4 ⟨Nat.le_of_ble_eq_true rfl, Nat.le_of_ble_eq_true rfl⟩ (fun u H locs hw => ?_)
  obtain ⟨sc, tx, pl, fa, xa, ba, pa, aa, h, hs, ht, hq, kh, ks, kt, kq, hi, pb, hA, hB, hC, hD9, sl, sv, ga, wa, qA, qB, qC, qE, gA⟩ := u
  refine lv_astore_n (lv' := [(1, .ref ob), (0, .ref b)]) hx hb dL_law_7 rfl hl (by decide) rfl (fun ls hl => ?_)
  refine g_new (ci := 6) (fs := [.int 0, .null, .int 0, .null, .int 0, .int 0, .null, .int 0, .int 0, .null, .null, .null, .null, .null, .null, .null, .null, .int 0, .null, .null, .null, .int 0, .null, .null, .null, .null, .long 0, .null, .null, .null, .int 0, .int 0, .float FP.fconst0, .null, .null, .null]) (TT := TX6) (N := 36) hc hw inL_X6 tyX6 tyX6_ok 3 4 5 rfl rfl rfl rfl (fun j hj => by rcases (show j = 0 ∨ j = 1 ∨ j = 2 ∨ j = 3 ∨ j = 4 ∨ j = 5 ∨ j = 6 ∨ j = 7 ∨ j = 8 ∨ j = 9 ∨ j = 10 ∨ j = 11 ∨ j = 12 ∨ j = 13 ∨ j = 14 ∨ j = 15 ∨ j = 16 ∨ j = 17 ∨ j = 18 ∨ j = 19 ∨ j = 20 ∨ j = 21 ∨ j = 22 ∨ j = 23 ∨ j = 24 ∨ j = 25 ∨ j = 26 ∨ j = 27 ∨ j = 28 ∨ j = 29 ∨ j = 30 ∨ j = 31 ∨ j = 32 ∨ j = 33 ∨ j = 34 ∨ j = 35 by omega) with rfl | rfl | rfl | rfl | rfl | rfl | rfl | rfl | rfl | rfl | rfl | rfl | rfl | rfl | rfl | rfl | rfl | rfl | rfl | rfl | rfl | rfl | rfl | rfl | rfl | rfl | rfl | rfl | rfl | rfl | rfl | rfl | rfl | rfl | rfl | rfl <;> rfl) (Nat.le_of_ble_eq_true rfl) (Nat.le_of_ble_eq_true rfl) dL_law_8 (fun o H hw => ?_)
  refine lv_dup hx hb dL_law_11 rfl ?_
  refine g_cNI (b := o) (eb := .inr (6, [.int 0, .null, .int 0, .null, .int 0, .int 0, .null, .int 0, .int 0, .null, .null, .null, .null, .null, .null, .null, .null, .int 0, .null, .null, .null, .int 0, .null, .null, .null, .null, .long 0, .null, .null, .null, .int 0, .int 0, .float FP.fconst0, .null, .null, .null])) (bytes := cX6_init) (maxL := 2) (rest := [.ref o]) hc hAO hw hl.1 (m_X6_init (l := l) (D := D) (E := E) (T := T) o) gL_law_X6_init rfl (hts (.methodLink RL 12 yX6_init) (by decide +kernel)) (hts (.initialized RX6) (by decide +kernel)) (hts (.instanceMethod yX6_init) (by decide +kernel)) rfl (by decide +kernel) ⟨Nat.le_of_ble_eq_true rfl, Nat.le_of_ble_eq_true rfl⟩ rfl (Nat.le_of_ble_eq_true rfl) dL_law_12 ⟨Nat.le_of_ble_eq_true rfl, Nat.le_of_ble_eq_true rfl⟩ (fun v H locs hw => ?_)
  obtain ⟨v1, v2, v3, v4, v5, v6, v7, v8, v9, v10, v11, v12, v13, v14, v15, v16, v17, v18, v19, v20, v21, v22, v23, v24⟩ := v
  refine lv_astore_n (lv' := [(2, .ref o), (1, .ref ob), (0, .ref b)]) hx hb dL_law_15 rfl hl (by decide) rfl (fun ls hl => ?_)
  refine lv_iconst (v := 0) hx hb dL_law_16 (by decide) ?_
  refine lv_istore_n (lv' := [(3, .int 0), (2, .ref o), (1, .ref ob), (0, .ref b)]) hx hb dL_law_17 rfl hl (by decide) rfl (fun ls hl => ?_)
  have hw := g_reF (q0 := 100) (g := fl5 iniS) hw rfl (fun j _ => ini_fl iniS rfl (fun _ => rfl) j)
  have hw := g_reI (q0 := 101) (g := pgF iniU) hw rfl (fun j _ => ini_pg j)
  have hw := g_reF (q0 := 102) (g := fl5 iniU) hw rfl (fun j _ => ini_fl iniU rfl (fun _ => rfl) j)
  have hw : g_W D (lwA s) s (LW E (fun k => [ob, sc, tx, pl, fa, xa, ba, pa, aa, h, hs, ht, hq, kh, ks, kt, kq, hi, pb, sl, sv, ga, wa].getD k 0) (fun k => [hA, hB, hC, hD9, qA, qB, qC, qE, gA].getD k hA) (fun k => [o, v1, v2, v3, v4, v5, v6, v7, v8, v9, v10, v11, v12, v13, v14, v15, v16, v17, v18, v19, v20, v21, v22, v23, v24].getD k 0) iniC iniR) H locs := hw
  exact law_loop (cd := c) hc hX hbl hL (fun H1 locs1 ls1 hq => by
    refine lv_iconst (v := 1) hx hb dL_law_1077 (by decide) ?_
    refine va_forget hq ?_
    refine W.widen (k := 600000) (n := 7302250) (by decide) (by decide) ?_
    exact lw_ret (d0 := s.drawn) (Drawn.sameBut.refl s.drawn lw_cs) hx hb hr hlocks dL_law_1078) (L + 1) 0 (Nat.zero_le L) (by omega) iniC iniR H locs ls ini_inv hw (lv_sub hl [3, 2, 1, 0] rfl)
set_option maxHeartbeats 4000000 in
theorem lw_walk (l : Launch) (hflags : l.flags = flags0) (b : Addr) (xs : List Int32) : MetFree l x (headSpec (Jvm.Cond.code x code maxLocals ret :: tables_1) room_1) (lw_P b xs) (fun _ _ _ _ _ => True) lw_Q := by
  refine MetFree.of_bodyS (code := code) (maxLocals := maxLocals) (ret := ret) (by decide) ?_ ?_
  · intro args s m h hn
    obtain ⟨meth, c, h1, h2, h3, h4, h5, h6, -, -⟩ := Cond.code_spec hn (atoms_spec (ws := Jvm.Cond.code x code maxLocals ret :: tables_1) h _ List.mem_cons_self)
    exact ⟨meth, c, h1, h2, h3, h4, h5, h6⟩
  · intro p e s m args below meth c s₁ B hml0 hP _
    obtain ⟨rfl, hx, hbd, hgv⟩ := hP
    obtain ⟨scr, harrAt, hlist, hof, hsmall⟩ := hx
    obtain ⟨hcb, hkn, -, -⟩ := State.arrayAt?_spec harrAt
    have hown : s.vm.findClass R_law = some m.cls := findClass_of_methodNamed B.named
    have hts0 : ∀ c ∈ (Jvm.Cond.code x code maxLocals ret :: tables_1), c.before #[Value.ref b] s = true := atoms_spec (ws := Jvm.Cond.code x code maxLocals ret :: tables_1) B.pre
    have hts : ∀ w ∈ lw_tbl, w.before #[Value.ref b] s = true := k2_hts_sels lw_privs (fun w hw => hts0 w (List.mem_cons_of_mem _ hw)) lw_privs_ok
    have hml : c.maxLocals = 4 := B.maxLocals_eq (hts0 _ List.mem_cons_self)
    have X₀ : Stand p l e room_1 s m #[Value.ref b] below meth c s₁ [] 0 0 := Stand.of_body B
    have hh0 : s₁.heap = s.heap := by rw [B.state]; rfl
    have hsz : scr.slots.size = xs.length := by rw [← Array.length_toList, hlist, List.length_map]
    have hval : ∀ j : Nat, j < xs.length → scr.slots[j]? = some (.int (xs.getD j 0)) := fun j hj => by
      rw [← Array.getElem?_toList, hlist]
      simp [hj]
    have hbl : b < s.heap.size := (Array.getElem?_eq_some_iff.mp hcb).1
    have hX : va_X b xs.length (fun j => xs.getD j 0) s s.heap := ⟨scr, hcb, hof, hkn, hsz, hval⟩
    have K : W p l e room_1 s m #[Value.ref b] below meth c s₁.heap [] 0 0 (lw_Z below #[Value.ref b] s) (entryFrame m ([Value.ref b] : List Value).toArray 4) := by
      rw [hh0]
      exact whole_start l hflags hbd ⟨B.exec, B.bytes, B.returns, hml, hown, hts, hX, hbl, B.notSynchronized, hgv⟩
    obtain ⟨t, a1, o, b1, b2, b3⟩ := K s₁ rfl X₀
    exact ⟨t, o, a1, b1, b2, b3⟩
theorem lw_pre_spec {args : Array Value} {s : State} (h : (Jvm.Cond.and given_1 narrow_1).before args s = true) (hr : rest_1_c.before args s = true) : ∃ (b : Addr) (xs : List Int32), lw_P b xs args s := by
  have hs := flat_of_before _ h
  have hq := flat_of_before _ hr
  have hc : (Cond.count 1).before args s = true := hs _ (by decide +kernel)
  have harr : (Cond.arrayOf (.arg 0) .int).before args s = true := hs _ (by decide +kernel)
  have hle : (Cond.le (.length (.arg 0)) (.int 2560)).before args s = true := hs _ (by decide +kernel)
  have hlen : (Cond.isInt (.length (.arg 0))).before args s = true := hq _ (by decide +kernel)
  have hall : (Cond.all (.arg 0) (.isInt (.elem (.arg 0) (.index 0)))).before args s = true := hq _ (by decide +kernel)
  obtain ⟨b, xs, hb, hx⟩ := State.ints_of_pre rfl harr hlen hall
  have hsm : xs.length < 2 ^ 31 := hx.choose_spec.2.2.2
  have hev : (Term.length (.arg 0)).eval args s none [] s = some (.int xs.length.toInt32) := hx.length_eval hb
  have hv := Cond.le_ints hev (show (Term.int 2560).eval args s none [] s = some (.int 2560) from rfl)
  have hd : xs.length.toInt32 ≤ 2560 := by
    simpa [Cond.before, Cond.holds, hv] using hle
  have hN : xs.length ≤ 2560 := (Int32.ofNat_le_ofNat hsm (by decide)).mp (show Int32.ofNat xs.length ≤ Int32.ofNat 2560 from hd)
  exact ⟨b, xs, Cond.one_arg hc (show args[0]? = some (.ref b) from hb), hx, hN, h⟩
theorem lw_comes (l : Launch) (hflags : l.flags = flags0) : Comes l x (Jvm.Cond.code x code maxLocals ret :: tables_1) room_1 (fun tb e args s => Calls_1 tb e args s ∧ rest_1 tb e args s ∧ Pre_1 tb e args s)
    (fun _ _ args s o t => lw_Q args s o t) := by
  intro p e ha hc hk s m args below hf hfit hheap happ hpre
  obtain ⟨b, xs, hP⟩ := lw_pre_spec hpre.2.2 hpre.2.1
  obtain ⟨k, o, h1, h2, h3, hQ⟩ := lw_walk l hflags b xs p e ha hc hk s m args below hf ((Spec.applies_iff_loose hf).mp happ).1 hP trivial
  exact ⟨k, o, h1, h2, h3, hQ⟩
theorem lw_frame {s t : State} {o : Outcome} {args : Array Value} (h : State.butDraws s t lw_cs (fun t1 => Framed s o t1 [] 600000 7302250)) :
    State.butDraws s t [Jvm.Choice.named "NaN.bits"] (fun t1 => Framed s o t1 (fieldLocs frame_1_writes args s ++ arrayLocs frame_1_arrays args s ++ staticLocs frame_1_statics s) 600000 7302250) := h
theorem lw_limb (L : Cond) (hL : ∀ (args : Array Value) (s t : State), L.after args s (.returned (some (.int 1))) t = true) :
    ArmFor flags0 classFile x code maxLocals ret World_1 tables_1 room_1 Calls_1 rest_1 Pre_1
      (fun tb e a s o t => postC L tb e a s o t ∧ State.butDraws s t [Jvm.Choice.named "NaN.bits"] (fun t1 => Framed s o t1 (fieldLocs frame_1_writes a s ++ arrayLocs frame_1_arrays a s ++ staticLocs frame_1_statics s) 600000 7302250)) := by
  intro l hflags _ _ p e ha hc hk s m args below hf hfit hheap happ hpre
  obtain ⟨k, o, h1, h2, h3, rfl, hF⟩ := lw_comes l hflags p e ha hc hk s m args below hf hfit hheap happ hpre
  exact ⟨k, _, h1, h2, h3, hL args s _, lw_frame hF⟩
theorem i_vc : Claimed_1_1 ∧ Claimed_1_2 := ⟨lw_limb limb_1_1 (fun args s t => by simp [limb_1_1, Cond.after, Cond.holds, Cond.value]), lw_limb limb_1_2 (fun args s t => Cond.after_iff.mpr (by
  first | (rw [show limb_1_2 = Cond.eq .result (.int 1) from rfl, Cond.eq_ints (x := 1) (y := 1) rfl rfl]; simp; done) | (simp [limb_1_2, Cond.value, Term.eval]; done)))⟩
