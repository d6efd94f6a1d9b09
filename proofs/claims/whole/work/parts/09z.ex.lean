/-! MY ROWS 6: contracts whose end leaves some cells open: there is a u with the world ws1 u -/
section GEx
def g_QE {U : Type} (D : va_G) (ws : va_W) (ws1 : U → va_W) (sz : Nat) (o : Option Value) : Array Value → State → Outcome → State → Prop := fun _ st oc t => (oc = .returned o ∧ ∃ u : U, va_P D vwCl (ws1 u) t.heap) ∧ va_F (va_A ws sz) st t
def g_ME {U : Type} (l : Launch) (D : va_G) (E : Nat → ClassId) (T : Nat → Nat) (y : MethodName) (wy : List Cond) (fr lo : Nat) (av : List Value) (ws : va_W) (ws1 : U → va_W) (o : Option Value) : Prop := ∀ sz : Nat, Met l y wy ({ frames := fr, cells := 0, slots := 0, locals := lo }) (g_Pc D E T av ws sz) (g_QE D ws ws1 sz o) 0 0 (va_A ws sz)
def g_QX {U : Type} (below : List Frame) (D : va_G) (A : Nat → Prop) (s : State) (args : Array Value) (ws1 : U → va_W) (o : Option Value) : State → Prop := MQ below (fun _ st oc t => (oc = .returned o ∧ ∃ u : U, va_P D vwCl (ws1 u) t.heap) ∧ va_F A st t) args s 0 0 A
theorem g_ME.of {U : Type} {l : Launch} {D : va_G} {E : Nat → ClassId} {T : Nat → Nat} {y : MethodName} {wy wy' : List Cond} {fr lo : Nat} {av : List Value} {ws : va_W} {ws1 : U → va_W} {o : Option Value} {cc : ByteArray} {nL : Nat} {ret : Option FieldType} {own : String} {lv : List (Nat × Value)} (hy : plainName y.cls = true) (hw : wy = Cond.code y cc nL ret :: wy') (hcl : y.cls = own) (hlen : (lg_sl av).length ≤ nL) (hlv : lv_args 0 av = lv)
    (body : ∀ (p : Program) (e : Env) (R : Room) (s : State) (m : MethodId) (args : Array Value) (below : List Frame) (meth : Method) (c : Code) (A : Nat → Prop) (Q : State → Prop) (H : Heap) (locs : List Loc) (ls : Array Slot), R = g_R fr lo → Q = g_QX below D A s args ws1 o → g_C p s m args meth c cc own wy nL D E T A → meth.sig.returnType = ret → g_W D A s ws H locs → lv_has ls nL lv → W p l e R s m args below meth c H locs 0 0 Q (F0 m 0 ls [])) : g_ME l D E T y wy fr lo av ws ws1 o := by
  intro sz
  refine Met.ofW (cc := cc) (maxL := nL) (ret := ret) hy hw ?_
  intro p e s m args below meth c s₁ B hml hv
  obtain ⟨rfl, hsz, hP, hK, hD0, hSt, hNs⟩ := hv
  subst hsz
  have hts := atoms_spec (ws := wy) B.pre
  have hown : s.vm.findClass own = some m.cls := by
    have := findClass_of_methodNamed B.named
    rw [← hcl]
    exact this
  have hD := hD0.self (sz := s.heap.size)
  have hl := lv_entry av (n := nL) hlen
  rw [hlv] at hl
  rw [lg_entry_eq]
  exact body p e _ s m _ below meth c (va_A ws s.heap.size) _ _ _ _ rfl rfl ⟨B.exec, B.bytes, hml, hts, hown, hK, hSt, hNs, fun q h => Or.inr h, B.notSynchronized⟩ B.returns ⟨hP, hD, va_S.rf⟩ hl

variable {p : Program} {l : Launch} {e : Env} {R : Room} {s : State} {m : MethodId} {args : Array Value} {below : List Frame} {meth : Method} {c : Code} {H : Heap} {locs : List Loc} {cells slots : Nat} {Q : State → Prop}
variable {cc : ByteArray} {own : String} {Ts : List Cond} {nL : Nat} {D : va_G} {E : Nat → ClassId} {T : Nat → Nat} {A : Nat → Prop} {ws wc : va_W} {U : Type} {w1 : U → va_W} {pc : Nat} {ls : Array Slot} {st0 rest As : List Value} {o : Option Value}

theorem g_callE {a : Array Value} (hc : g_C p s m args meth c cc own Ts nL D E T A) (hw : g_W D A s ws H locs) (isC : List Nat) (hC : isC.map (fun i => ws[i]?) = wc.map some) (hadr : ∀ u : U, (w1 u).map (fun q => q.1) = wc.map (fun q => q.1)) (hr : va_Run p l e R s m args below meth c H locs cells slots 0 0 (F0 m pc ls st0) rest (g_QE D wc w1 H.size o a) (va_A wc H.size))
    (kk : ∀ (u : U) (H1 : Heap) (locs1 : List Loc), g_W D A s (g_set ws isC (w1 u)) H1 locs1 → W p l e R s m args below meth c H1 locs1 cells slots Q (F0 m (pc + 3) ls (o.toList ++ rest))) : W p l e R s m args below meth c H locs cells slots Q (F0 m pc ls st0) := by
  obtain ⟨hx, hb, hml, hts, hown, hK, hSt, hNs, hA, hlk⟩ := hc
  obtain ⟨hP, hD, hS⟩ := hw
  have hF := va_free (wc := wc) hD hS hA isC hC
  intro T0 hT X
  obtain ⟨v, st₀, t, T', L, h0, X', hL, e1, e2, ⟨⟨hv, u, hp⟩, hz, hk⟩, st⟩ := hr T0 hT X
  cases hv
  rw [h0] at hz hk
  have hk1 : ∀ q : Nat, q < H.size → ¬ va_A wc H.size q → T'.heap[q]? = H[q]? := fun q h1 h2 => by rw [e1]; exact hk q h1 h2
  obtain ⟨t2, a1, b1⟩ := kk u T'.heap (locs ++ L) ⟨g_set_P hP hD hC (hadr u) (by rw [e1]; exact hp) hk1, g_set_D hD hC (hadr u), ⟨Nat.le_trans hS.1 (by rw [e1]; exact hz), fun q h1 h2 => by
      rw [hk1 q (Nat.lt_of_lt_of_le h1 hS.1) (fun z => h2 (hF q z))]; exact hS.2.1 q h1 h2, fun q hq => by
      rcases List.mem_append.mp hq with h | h
      · exact hS.2.2 q h
      · exact hF _ (hL q h)⟩⟩ T' rfl X'
  exact ⟨t2, st t2 a1, b1⟩
variable {y : MethodName} {wy wy' : List Cond} {fr lo maxL index n : Nat} {bytes : ByteArray} {ret : Option FieldType} {C host : String} {b : Nat}

/-- a private method of the own class, on an object -/
theorem g_cEV (hc : g_C p s m args meth c cc own Ts nL D E T A) (hw : g_W D A s ws H locs) (hl : ls.size = nL) (hM : g_ME l D E T y wy fr lo (.ref b :: As) wc w1 o) (hT : GoodIn Ts (wsV own index C y wy)) (hwy : wy = Cond.code y bytes maxL ret :: wy')
    (hd : y.cls = C ∧ y.cls ≠ "java/lang/invoke/MethodHandle" ∧ y.cls ≠ "java/lang/invoke/VarHandle" ∧ (parseMethodDescriptor y.desc).map (fun d => d.parameters.length) = some n) (hR : fr + 1 ≤ R.frames ∧ 8 + (maxL + 11) + lo ≤ R.locals)
    (isC : List Nat) (q0 ci : Nat) {fs : List Value} {TT : u_T} {N : Nat} (hq : ws[q0]? = some (b, .inr (ci, fs))) (hci : vwCl[ci]? = some (C, TT, N)) (hnd : va_nd isC = true) (hC : isC.map (fun i => ws[i]?) = wc.map some) (adr : List Nat) (hadr1 : ∀ u : U, (w1 u).map (fun q => q.1) = adr) (hadr2 : wc.map (fun q => q.1) = adr) (hlen : As.length = n) (hst : st0 = As.reverse ++ .ref b :: rest) (hcat : (rest.map fun v => v.category).sum ≤ 8) (hdg : decode cc pc = .ok (.invokevirtual index, 3)) (hf : cells ≤ R.cells ∧ slots ≤ R.slots)
    (kk : ∀ (u : U) (H1 : Heap) (locs1 : List Loc), g_W D A s (g_set ws isC (w1 u)) H1 locs1 → W p l e R s m args below meth c H1 locs1 cells slots Q (F0 m (pc + 3) ls (o.toList ++ rest))) : W p l e R s m args below meth c H locs cells slots Q (F0 m pc ls st0) :=
  g_callE hc hw isC hC (fun u => (hadr1 u).trans hadr2.symm) (va_runV (As := As) (rest := rest) ⟨hc.1, hc.2.1, hc.2.2.1, hc.2.2.2.2.1, hc.2.2.2.1⟩ (hM H.size) (cwV n hc.2.2.2.1 hT hwy rfl rfl hd hR) ⟨g_blind D E T _ wc H.size, va_recv hc.2.2.2.2.2.1 hw.1 hci hq, g_pre hc hw isC hnd hC _⟩ rfl hlen hl hst (lv_room hcat) hdg hf) kk
/-- a static method of the own class -/
theorem g_cES (hc : g_C p s m args meth c cc own Ts nL D E T A) (hw : g_W D A s ws H locs) (hl : ls.size = nL) (hM : g_ME l D E T y wy fr lo As wc w1 o) (hT : GoodIn Ts (va_wsS own index y wy)) (hwy : wy = Cond.code y bytes maxL ret :: wy')
    (hd : y.cls ≠ "java/lang/invoke/MethodHandle" ∧ y.cls ≠ "java/lang/invoke/VarHandle" ∧ (parseMethodDescriptor y.desc).map (fun d => d.parameters.length) = some n) (hR : fr + 1 ≤ R.frames ∧ 8 + (maxL + 11) + lo ≤ R.locals)
    (isC : List Nat) (hnd : va_nd isC = true) (hC : isC.map (fun i => ws[i]?) = wc.map some) (adr : List Nat) (hadr1 : ∀ u : U, (w1 u).map (fun q => q.1) = adr) (hadr2 : wc.map (fun q => q.1) = adr) (hlen : As.length = n) (hst : st0 = As.reverse ++ rest) (hcat : (rest.map fun v => v.category).sum ≤ 8) (hdg : decode cc pc = .ok (.invokestatic index, 3)) (hf : cells ≤ R.cells ∧ slots ≤ R.slots)
    (kk : ∀ (u : U) (H1 : Heap) (locs1 : List Loc), g_W D A s (g_set ws isC (w1 u)) H1 locs1 → W p l e R s m args below meth c H1 locs1 cells slots Q (F0 m (pc + 3) ls (o.toList ++ rest))) : W p l e R s m args below meth c H locs cells slots Q (F0 m pc ls st0) :=
  g_callE hc hw isC hC (fun u => (hadr1 u).trans hadr2.symm) (va_runS (As := As) (rest := rest) ⟨hc.1, hc.2.1, hc.2.2.1, hc.2.2.2.2.1, hc.2.2.2.1⟩ (hM H.size) (va_cwS n hc.2.2.2.1 hT hwy rfl rfl hd hR) ⟨g_blind D E T _ wc H.size, g_pre hc hw isC hnd hC _⟩ rfl hlen hl hst (lv_room hcat) hdg hf) kk
/-- a private method of a nest mate, on an object -/
theorem g_cEVN (hc : g_C p s m args meth c cc own Ts nL D E T A) (hw : g_W D A s ws H locs) (hl : ls.size = nL) (hM : g_ME l D E T y wy fr lo (.ref b :: As) wc w1 o) (hG : GoodIn Ts wy) (hwy : wy = Cond.code y bytes maxL ret :: wy') (kn : Nat) (hkn : g_nW[kn]? = some (.methodLinkNest own index y host)) (k1 k2 k3 : Nat) (h1 : Ts[k1]? = some (.initialized y.cls)) (h2 : Ts[k2]? = some (.instanceMethod y)) (h3 : Ts[k3]? = some (.selects C y y))
    (hd : y.cls ≠ "java/lang/invoke/MethodHandle" ∧ y.cls ≠ "java/lang/invoke/VarHandle" ∧ (parseMethodDescriptor y.desc).map (fun d => d.parameters.length) = some n) (hR : fr + 1 ≤ R.frames ∧ 8 + (maxL + 11) + lo ≤ R.locals)
    (isC : List Nat) (q0 ci : Nat) {fs : List Value} {TT : u_T} {N : Nat} (hq : ws[q0]? = some (b, .inr (ci, fs))) (hci : vwCl[ci]? = some (C, TT, N)) (hnd : va_nd isC = true) (hC : isC.map (fun i => ws[i]?) = wc.map some) (adr : List Nat) (hadr1 : ∀ u : U, (w1 u).map (fun q => q.1) = adr) (hadr2 : wc.map (fun q => q.1) = adr) (hlen : As.length = n) (hst : st0 = As.reverse ++ .ref b :: rest) (hcat : (rest.map fun v => v.category).sum ≤ 8) (hdg : decode cc pc = .ok (.invokevirtual index, 3)) (hf : cells ≤ R.cells ∧ slots ≤ R.slots)
    (kk : ∀ (u : U) (H1 : Heap) (locs1 : List Loc), g_W D A s (g_set ws isC (w1 u)) H1 locs1 → W p l e R s m args below meth c H1 locs1 cells slots Q (F0 m (pc + 3) ls (o.toList ++ rest))) : W p l e R s m args below meth c H locs cells slots Q (F0 m pc ls st0) :=
  g_callE hc hw isC hC (fun u => (hadr1 u).trans hadr2.symm) (va_runVN (host := host) (As := As) (rest := rest) ⟨hc.1, hc.2.1, hc.2.2.1, hc.2.2.2.2.1, hc.2.2.2.1⟩ (hM H.size) ⟨va_cnB n hc.2.2.2.1 hG hwy rfl rfl (hc.2.2.2.2.2.2.2.1 _ (List.mem_of_getElem? hkn)) (hc.2.2.2.1 _ (List.mem_of_getElem? h1)) hd hR, hc.2.2.2.1 _ (List.mem_of_getElem? h2), hc.2.2.2.1 _ (List.mem_of_getElem? h3)⟩ ⟨g_blind D E T _ wc H.size, va_recv hc.2.2.2.2.2.1 hw.1 hci hq, g_pre hc hw isC hnd hC _⟩ rfl hlen hl hst (lv_room hcat) hdg hf) kk
/-- a private static method of a nest mate -/
theorem g_cESN (hc : g_C p s m args meth c cc own Ts nL D E T A) (hw : g_W D A s ws H locs) (hl : ls.size = nL) (hM : g_ME l D E T y wy fr lo As wc w1 o) (hG : GoodIn Ts wy) (hwy : wy = Cond.code y bytes maxL ret :: wy') (kn : Nat) (hkn : g_nW[kn]? = some (.methodLinkNest own index y host)) (k1 k2 : Nat) (h1 : Ts[k1]? = some (.initialized y.cls)) (h2 : Ts[k2]? = some (.static y))
    (hd : y.cls ≠ "java/lang/invoke/MethodHandle" ∧ y.cls ≠ "java/lang/invoke/VarHandle" ∧ (parseMethodDescriptor y.desc).map (fun d => d.parameters.length) = some n) (hR : fr + 1 ≤ R.frames ∧ 8 + (maxL + 11) + lo ≤ R.locals)
    (isC : List Nat) (hnd : va_nd isC = true) (hC : isC.map (fun i => ws[i]?) = wc.map some) (adr : List Nat) (hadr1 : ∀ u : U, (w1 u).map (fun q => q.1) = adr) (hadr2 : wc.map (fun q => q.1) = adr) (hlen : As.length = n) (hst : st0 = As.reverse ++ rest) (hcat : (rest.map fun v => v.category).sum ≤ 8) (hdg : decode cc pc = .ok (.invokestatic index, 3)) (hf : cells ≤ R.cells ∧ slots ≤ R.slots)
    (kk : ∀ (u : U) (H1 : Heap) (locs1 : List Loc), g_W D A s (g_set ws isC (w1 u)) H1 locs1 → W p l e R s m args below meth c H1 locs1 cells slots Q (F0 m (pc + 3) ls (o.toList ++ rest))) : W p l e R s m args below meth c H locs cells slots Q (F0 m pc ls st0) :=
  g_callE hc hw isC hC (fun u => (hadr1 u).trans hadr2.symm) (va_runSN (host := host) (As := As) (rest := rest) ⟨hc.1, hc.2.1, hc.2.2.1, hc.2.2.2.2.1, hc.2.2.2.1⟩ (hM H.size) ⟨va_cnB n hc.2.2.2.1 hG hwy rfl rfl (hc.2.2.2.2.2.2.2.1 _ (List.mem_of_getElem? hkn)) (hc.2.2.2.1 _ (List.mem_of_getElem? h1)) hd hR, hc.2.2.2.1 _ (List.mem_of_getElem? h2), trivial⟩ ⟨g_blind D E T _ wc H.size, g_pre hc hw isC hnd hC _⟩ rfl hlen hl hst (lv_room hcat) hdg hf) kk

theorem g_iretE {ws1 : U → va_W} (u : U) {v : Int32} {o : Option Value} (hQ : Q = g_QX below D A s args ws1 o) (hc : g_C p s m args meth c cc own Ts nL D E T A) (hw : g_W D A s ws H locs) (hr : meth.sig.returnType = some .int) (hv : o = some (.int v)) (hws : ws = ws1 u) (hdg : decode cc pc = .ok (.ireturn, 1)) : W p l e R s m args below meth c H locs 0 0 Q (F0 m pc ls [.int v]) := by
  subst hQ
  subst hv
  subst hws
  exact W.iret hc.1 hc.2.1 hr (fun t ht hW => ⟨⟨rfl, u, by rw [ht]; exact hw.1⟩, hw.2.2.F ht⟩) hw.2.2.2.2 hdg hc.2.2.2.2.2.2.2.2.2
theorem g_lretE {ws1 : U → va_W} (u : U) {v : Int64} {o : Option Value} (hQ : Q = g_QX below D A s args ws1 o) (hc : g_C p s m args meth c cc own Ts nL D E T A) (hw : g_W D A s ws H locs) (hr : meth.sig.returnType = some .long) (hv : o = some (.long v)) (hws : ws = ws1 u) (hdg : decode cc pc = .ok (.lreturn, 1)) : W p l e R s m args below meth c H locs 0 0 Q (F0 m pc ls [.long v]) := by
  subst hQ
  subst hv
  subst hws
  exact W.lret hc.1 hc.2.1 hr (fun t ht hW => ⟨⟨rfl, u, by rw [ht]; exact hw.1⟩, hw.2.2.F ht⟩) hw.2.2.2.2 hdg hc.2.2.2.2.2.2.2.2.2
theorem g_fretE {ws1 : U → va_W} (u : U) {v : UInt32} {o : Option Value} (hQ : Q = g_QX below D A s args ws1 o) (hc : g_C p s m args meth c cc own Ts nL D E T A) (hw : g_W D A s ws H locs) (hr : meth.sig.returnType = some .float) (hv : o = some (.float v)) (hws : ws = ws1 u) (hdg : decode cc pc = .ok (.freturn, 1)) : W p l e R s m args below meth c H locs 0 0 Q (F0 m pc ls [.float v]) := by
  subst hQ
  subst hv
  subst hws
  exact W.fret hc.1 hc.2.1 hr (fun t ht hW => ⟨⟨rfl, u, by rw [ht]; exact hw.1⟩, hw.2.2.F ht⟩) hw.2.2.2.2 hdg hc.2.2.2.2.2.2.2.2.2
theorem g_vretE {ws1 : U → va_W} (u : U) {o : Option Value} (hQ : Q = g_QX below D A s args ws1 o) (hc : g_C p s m args meth c cc own Ts nL D E T A) (hw : g_W D A s ws H locs) (hr : meth.sig.returnType = none) (hv : o = none) (hws : ws = ws1 u) (hdg : decode cc pc = .ok (.return_, 1)) : W p l e R s m args below meth c H locs 0 0 Q (F0 m pc ls []) := by
  subst hQ
  subst hv
  subst hws
  exact W.vret hc.1 hc.2.1 hr (fun t ht hW => ⟨⟨rfl, u, by rw [ht]; exact hw.1⟩, hw.2.2.F ht⟩) hw.2.2.2.2 hdg hc.2.2.2.2.2.2.2.2.2
theorem g_zretE {ws1 : U → va_W} (u : U) {v : Int32} {o : Option Value} (hQ : Q = g_QX below D A s args ws1 o) (hc : g_C p s m args meth c cc own Ts nL D E T A) (hw : g_W D A s ws H locs) (hr : meth.sig.returnType = some .boolean) (hv : o = some (.int v)) (hn : narrow .boolean (.int v) = .int v) (hws : ws = ws1 u) (hdg : decode cc pc = .ok (.ireturn, 1)) : W p l e R s m args below meth c H locs 0 0 Q (F0 m pc ls [.int v]) := by
  subst hQ
  subst hv
  subst hws
  exact W.zret hc.1 hc.2.1 hr hn (fun t ht hW => ⟨⟨rfl, u, by rw [ht]; exact hw.1⟩, hw.2.2.F ht⟩) hw.2.2.2.2 hdg hc.2.2.2.2.2.2.2.2.2

end GEx
