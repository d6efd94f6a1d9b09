/-! MY ROWS 7: constructors: contracts whose end has new cells -/
section GNew
def g_AO (U : State) : Prop := va_AO "SpinWheels$State" U ∧ va_AO "SpinWheels$Sight" U
theorem g_AO.moved {u U : State} (h : u.vm.Alike U.vm) (q : g_AO u) : g_AO U := ⟨q.1.moved h, q.2.moved h⟩
def g_PN (D : va_G) (E : Nat → ClassId) (T : Nat → Nat) (av : List Value) (ws : va_W) (sz : Nat) : Array Value → State → Prop := fun v U => g_Pc D E T av ws sz v U ∧ g_AO U
def g_QN {U : Type} (D : va_G) (ws : va_W) (w1 : U → va_W) (sz : Nat) : Array Value → State → Outcome → State → Prop := fun _ st oc t => (oc = .returned none ∧ ∃ u : U, va_P D vwCl (w1 u) t.heap ∧ va_D (va_A ws sz) (w1 u)) ∧ va_F (va_A ws sz) st t
abbrev g_RN (fr lo mc ms : Nat) : Room := { frames := fr, cells := mc, slots := ms, locals := lo }
/-- a constructor's contract: from the world ws to a world w1 u, mc cells of ms slots new -/
def g_MN {U : Type} (l : Launch) (D : va_G) (E : Nat → ClassId) (T : Nat → Nat) (y : MethodName) (wy : List Cond) (fr lo mc ms : Nat) (av : List Value) (ws : va_W) (w1 : U → va_W) : Prop := ∀ sz : Nat, Met l y wy (g_RN fr lo mc ms) (g_PN D E T av ws sz) (g_QN D ws w1 sz) mc ms (va_A ws sz)
def g_QNX {U : Type} (below : List Frame) (D : va_G) (A : Nat → Prop) (s : State) (args : Array Value) (w1 : U → va_W) (mc ms : Nat) : State → Prop := MQ below (fun _ st oc t => (oc = .returned none ∧ ∃ u : U, va_P D vwCl (w1 u) t.heap ∧ va_D A (w1 u)) ∧ va_F A st t) args s mc ms A
theorem g_MN.of {U : Type} {l : Launch} {D : va_G} {E : Nat → ClassId} {T : Nat → Nat} {y : MethodName} {wy wy' : List Cond} {fr lo mc ms : Nat} {av : List Value} {ws : va_W} {w1 : U → va_W} {cc : ByteArray} {nL : Nat} {own : String} {lv : List (Nat × Value)} (hy : plainName y.cls = true) (hw : wy = Cond.code y cc nL none :: wy') (hcl : y.cls = own) (hyn : y.name = "<init>") (hlen : (lg_sl av).length ≤ nL) (hlv : lv_args 0 av = lv)
    (body : ∀ (p : Program) (e : Env) (R : Room) (s : State) (m : MethodId) (args : Array Value) (below : List Frame) (meth : Method) (c : Code) (A : Nat → Prop) (Q : State → Prop) (H : Heap) (locs : List Loc) (ls : Array Slot), R = g_RN fr lo mc ms → Q = g_QNX below D A s args w1 mc ms → g_C p s m args meth c cc own wy nL D E T A → g_AO s → meth.name = "<init>" → meth.sig.returnType = none → g_W D A s ws H locs → lv_has ls nL lv → W p l e R s m args below meth c H locs 0 0 Q (F0 m 0 ls [])) : g_MN l D E T y wy fr lo mc ms av ws w1 := by
  intro sz
  refine Met.ofW (cc := cc) (maxL := nL) (ret := none) hy hw ?_
  intro p e s m args below meth c s₁ B hml hv
  obtain ⟨⟨rfl, hsz, hP, hK, hD0, hSt, hNs⟩, hAO⟩ := hv
  subst hsz
  have hts := atoms_spec (ws := wy) B.pre
  have hown : s.vm.findClass own = some m.cls := by
    have := findClass_of_methodNamed B.named
    rw [← hcl]
    exact this
  have hD := hD0.self (sz := s.heap.size)
  have hl := lv_entry av (n := nL) hlen
  rw [hlv] at hl
  rw [lg_entry_eq]
  exact body p e _ s m _ below meth c (va_A ws s.heap.size) _ _ _ _ rfl rfl ⟨B.exec, B.bytes, hml, hts, hown, hK, hSt, hNs, fun q h => Or.inr h, B.notSynchronized⟩ hAO ((name_of_methodNamed B.named B.method).1.trans hyn) B.returns ⟨hP, hD, va_S.rf⟩ hl
theorem g_PN_blind (D : va_G) (E : Nat → ClassId) (T : Nat → Nat) (av : List Value) (ws : va_W) (sz : Nat) : FrameBlind (g_PN D E T av ws sz) := by
  intro a U g mk q
  exact ⟨g_blind D E T av ws sz a U g mk q.1, q.2.moved (Vm.Alike.refl U.vm)⟩

variable {p : Program} {l : Launch} {e : Env} {R : Room} {s : State} {m : MethodId} {args : Array Value} {below : List Frame} {meth : Method} {c : Code} {H : Heap} {locs : List Loc} {cells slots : Nat} {Q : State → Prop}
variable {cc : ByteArray} {own : String} {Ts : List Cond} {nL : Nat} {D : va_G} {E : Nat → ClassId} {T : Nat → Nat} {A : Nat → Prop} {ws : va_W} {pc : Nat} {ls : Array Slot} {st0 rest As : List Value}
theorem g_vretN {U : Type} {w1 : U → va_W} {mc ms : Nat} (u : U) (hQ : Q = g_QNX below D A s args w1 mc ms) (hc : g_C p s m args meth c cc own Ts nL D E T A) (hw : g_W D A s ws H locs) (hr : meth.sig.returnType = none) (hws : ws = w1 u) (hdg : decode cc pc = .ok (.return_, 1)) : W p l e R s m args below meth c H locs mc ms Q (F0 m pc ls []) := by
  subst hQ
  subst hws
  exact W.vret hc.1 hc.2.1 hr (fun t ht hW => ⟨⟨rfl, u, by rw [ht]; exact hw.1, hw.2.1⟩, hw.2.2.F ht⟩) hw.2.2.2.2 hdg hc.2.2.2.2.2.2.2.2.2
theorem g_obj (hc : g_C p s m args meth c cc own Ts nL D E T A) (hl : ls.size = nL) (k1 k2 k3 : Nat) {idx : Nat} (h1 : Ts[k1]? = some (.methodLink own idx objectInit)) (h2 : Ts[k2]? = some (.instanceMethod objectInit)) (h3 : Ts[k3]? = some (.code objectInit ⟨#[0xb1]⟩ 1 none)) {a : Nat} (hd : decode cc pc = .ok (.invokespecial idx, 3)) (hf : 1 ≤ R.frames ∧ 12 ≤ R.locals)
    (kk : W p l e R s m args below meth c H locs cells slots Q (F0 m (pc + 3) ls [])) : W p l e R s m args below meth c H locs cells slots Q (F0 m pc ls [.ref a]) :=
  W.objInit hc.1 hc.2.1 hc.2.2.2.2.1 (hc.2.2.2.1 _ (List.mem_of_getElem? h1)) (hc.2.2.2.1 _ (List.mem_of_getElem? h2)) (hc.2.2.2.1 _ (List.mem_of_getElem? h3)) (g := F0 m pc ls [.ref a]) rfl (hl.trans hc.2.2.1.symm) rfl hd hf.1 hf.2 kk
theorem g_tyE {k : Nat} {cA : ClassId} {ty : FieldType} (hK : va_K D vwCl (g_Ty E) s) (hn : s.vm.findClass ("[" ++ ty.toString) = some cA) (hk : (g_Ty E)[k]? = some (E k, ty)) : cA = E k := by
  have h := (hK.2 k _ hk).2
  have h2 : s.vm.findClass ("[" ++ ty.toString) = some (E k) := by
    cases ty with
    | object C => exact h.choose_spec.choose_spec.2.2.2
    | _ => exact h
  exact Option.some.inj (hn.symm.trans h2)
/-- a new row of numbers -/
theorem g_newa {atype : ArrayType} {ty : FieldType} {N : Nat} {a0 : vp_A} (hc : g_C p s m args meth c cc own Ts nL D E T A) (hw : g_W D A s ws H locs) (k kA : Nat) (hk : (g_Ty E)[k]? = some (E k, ty)) (hty : newarray.typeOf atype = ty) (hA : Ts[kA]? = some (.arrayClass ty)) (ha : ∀ cA : ClassId, vp_cell cA a0 = arrV cA N (fun _ => defaultValue ty)) {n : Int32} (hn : ¬ n < 0) (hN : n.toNatClampNeg = N) (hby : N * componentBytes ty ≤ 536870912) (hcells : cells + 1 ≤ R.cells) (hslots : slots + N ≤ R.slots) (hdg : decode cc pc = .ok (.newarray atype, 2))
    (kk : ∀ (q : Nat) (H1 : Heap), g_W D A s (ws ++ [(q, .inl (E k, a0))]) H1 locs → W p l e R s m args below meth c H1 locs (cells + 1) (slots + N) Q (F0 m (pc + 2) ls (.ref q :: rest))) : W p l e R s m args below meth c H locs cells slots Q (F0 m pc ls (.int n :: rest)) := by
  refine va_newa (D := D) (tys := g_Ty E) hc.1 hc.2.1 (by rw [hty]; exact hc.2.2.2.1 _ (List.mem_of_getElem? hA)) hty hc.2.2.2.2.2.1 hw.1 hw.2.1 hw.2.2 hc.2.2.2.2.2.2.2.2.1 ha hn hN hby hcells hslots hdg (fun q cA H1 hK hP hD hS => ?_)
  have e1 : cA = E k := by
    have h := (hK.2 (g_Ty E).length (cA, ty) (by rw [List.getElem?_append_right (Nat.le_refl _), Nat.sub_self]; rfl)).2
    refine g_tyE hc.2.2.2.2.2.1 ?_ hk
    cases ty with
    | object C => exact h.choose_spec.choose_spec.2.2.2
    | _ => exact h
  subst e1
  exact kk q H1 ⟨hP, hD, hS⟩
/-- a new row of objects, all null -/
theorem g_newq {C : String} {N : Nat} (hc : g_C p s m args meth c cc own Ts nL D E T A) (hw : g_W D A s ws H locs) (hAO : va_AO C s) (k kC : Nat) {index : Nat} (hk : (g_Ty E)[k]? = some (E k, .object C)) (hC : Ts[kC]? = some (.classLink own index C)) {n : Int32} (hn : ¬ n < 0) (hN : n.toNatClampNeg = N) (hby : N * 4 ≤ 536870912) (hcells : cells + 1 ≤ R.cells) (hslots : slots + N ≤ R.slots) (hdg : decode cc pc = .ok (.anewarray index, 3))
    (kk : ∀ (q : Nat) (H1 : Heap), g_W D A s (ws ++ [(q, .inl (E k, N, .inr (.inr (.inr (.inr (fun _ => none))))))]) H1 locs → W p l e R s m args below meth c H1 locs (cells + 1) (slots + N) Q (F0 m (pc + 3) ls (.ref q :: rest))) : W p l e R s m args below meth c H locs cells slots Q (F0 m pc ls (.int n :: rest)) := by
  refine va_newq (D := D) (tys := g_Ty E) hc.1 hc.2.1 hc.2.2.2.2.1 (hc.2.2.2.1 _ (List.mem_of_getElem? hC)) hAO hc.2.2.2.2.2.1 hw.1 hw.2.1 hw.2.2 hc.2.2.2.2.2.2.2.2.1 hn hN hby hcells hslots hdg (fun q cA H1 hK hP hD hS => ?_)
  have e1 : cA = E k := by
    have h := (hK.2 (g_Ty E).length (cA, .object C) (by rw [List.getElem?_append_right (Nat.le_refl _), Nat.sub_self]; rfl)).2
    exact g_tyE hc.2.2.2.2.2.1 h.choose_spec.choose_spec.2.2.2 hk
  subst e1
  exact kk q H1 ⟨hP, hD, hS⟩
/-- a new object -/
theorem g_new {C : String} {TT : u_T} {N ci index : Nat} {fs : List Value} (hc : g_C p s m args meth c cc own Ts nL D E T A) (hw : g_W D A s ws H locs) (hin : ∀ w ∈ u_ws C TT N, w ∈ Ts) (ty0 : Nat → FieldType) (hty : ∀ k, k < N → parseFieldDescriptor (TT k).2.2.1 = some (ty0 k)) (k1 k2 k3 : Nat) (h1 : Ts[k1]? = some (.classLink own index C)) (h2 : Ts[k2]? = some (.instantiable C N)) (h3 : Ts[k3]? = some (.initialized C)) (hci : vwCl[ci]? = some (C, TT, N)) (hfs : ∀ j, j < N → defaultValue (ty0 j) = vp_V fs j) (hcells : cells + 1 ≤ R.cells) (hslots : slots + N ≤ R.slots) (hdg : decode cc pc = .ok (.new index, 3))
    (kk : ∀ (q : Nat) (H1 : Heap), g_W D A s (ws ++ [(q, .inr (ci, fs))]) H1 locs → W p l e R s m args below meth c H1 locs (cells + 1) (slots + N) Q (F0 m (pc + 3) ls (.ref q :: rest))) : W p l e R s m args below meth c H locs cells slots Q (F0 m pc ls rest) :=
  va_new (D := D) (tys := g_Ty E) hc.1 hc.2.1 hc.2.2.2.1 hin ty0 hty hc.2.2.2.2.1 (hc.2.2.2.1 _ (List.mem_of_getElem? h1)) (hc.2.2.2.1 _ (List.mem_of_getElem? h2)) (hc.2.2.2.1 _ (List.mem_of_getElem? h3)) hc.2.2.2.2.2.1 hw.1 hw.2.1 hw.2.2 hc.2.2.2.2.2.2.2.2.1 hci hfs hcells hslots hdg (fun q H1 hP hD hS => kk q H1 ⟨hP, hD, hS⟩)
/-- a final field, in the constructor -/
theorem g_putF {C : String} {TT : u_T} {N ci index : Nat} {a : Nat} {fs : List Value} {v : Value} (hc : g_C p s m args meth c cc own Ts nL D E T A) (hw : g_W D A s ws H locs) (hin2 : meth.name = "<init>") (hin : ∀ w ∈ u_ws C TT N, w ∈ Ts) (ty0 : Nat → FieldType) (hty : ∀ k, k < N → parseFieldDescriptor (TT k).2.2.1 = some (ty0 k)) (hnm : ∀ a, a < N → ∀ b, b < N → a ≠ b → (TT a).2.1 ≠ (TT b).2.1) (q0 k i9 : Nat) (he : ws[q0]? = some (a, .inr (ci, fs))) (hci : vwCl[ci]? = some (C, TT, N)) (hk : k < N) (hi9 : Ts[i9]? = some (.fieldLink own index (TT k).1 (TT k).2.1 (TT k).2.2.1)) (hfin : (TT k).2.2.2 = true) (hdecl : (TT k).1 = own) (hn : narrow (ty0 k) v = v) (hfit : fits (ty0 k) v = true) (hl : k < fs.length) (hdg : decode cc pc = .ok (.putfield index, 3))
    (kk : ∀ (H1 : Heap) (locs1 : List Loc), g_W D A s (ws.set q0 (a, .inr (ci, fs.set k v))) H1 locs1 → W p l e R s m args below meth c H1 locs1 cells slots Q (F0 m (pc + 3) ls rest)) : W p l e R s m args below meth c H locs cells slots Q (F0 m pc ls (v :: .ref a :: rest)) :=
  va_putF (D := D) hc.1 hc.2.1 hc.2.2.2.1 hin ty0 hty hnm hc.2.2.2.2.1 hc.2.2.2.2.2.1 hw.1 hw.2.1 hw.2.2 q0 he hci k hk (hc.2.2.2.1 _ (List.mem_of_getElem? hi9)) (fun _ h9 => h9) hfin hin2 hdecl (hty k hk) hn hfit hl hdg (fun H1 locs1 h1 h2 h3 => kk H1 locs1 ⟨h1, h2, h3⟩)
/-- an object put into a row -/
theorem g_qst {r : vw_C} {ci : Nat} {a v n : Nat} {vs : List Value} {f : Nat → Option Nat} {i : Int32} (hc : g_C p s m args meth c cc own Ts nL D E T A) (hw : g_W D A s ws H locs) (q0 t0 qk j : Nat) (ha : ws[q0]? = some (a, .inl (E t0, n, .inr (.inr (.inr (.inr f)))))) (ht : (g_Ty E)[t0]? = some (E t0, .object r.1)) (hv : ws[qk]? = some (v, .inr (ci, vs))) (hci : vwCl[ci]? = some r) (hi : i = nI j) (hj : j < n) (hz : n < 2 ^ 31) (hdg : decode cc pc = .ok (.aastore, 1))
    (kk : ∀ (H1 : Heap) (locs1 : List Loc), g_W D A s (ws.set q0 (a, .inl (E t0, n, .inr (.inr (.inr (.inr (va_up f j (some v)))))))) H1 locs1 → W p l e R s m args below meth c H1 locs1 cells slots Q (F0 m (pc + 1) ls rest)) : W p l e R s m args below meth c H locs cells slots Q (F0 m pc ls (.ref v :: .int i :: .ref a :: rest)) := by
  subst hi
  refine va_astq (D := D) (tys := g_Ty E) hc.1 hc.2.1 hc.2.2.2.2.2.1 hw.1 hw.2.1 hw.2.2 q0 t0 qk ci ha ht hv hci (vp_in_nI hj hz) hdg ?_
  rw [nI_clamp (Nat.lt_trans hj hz)]
  exact fun H1 locs1 h1 h2 h3 => kk H1 locs1 ⟨h1, h2, h3⟩
/-- a row of objects, told anew -/
theorem g_reQ {q0 : Nat} {z : Nat} {a : Nat} {cA : ClassId} {f g : Nat → Option Nat} (hw : g_W D A s ws H locs) (ha : ws[q0]? = some (a, .inl (cA, z, .inr (.inr (.inr (.inr f)))))) (he : ∀ j, j < z → f j = g j) : g_W D A s (ws.set q0 (a, .inl (cA, z, .inr (.inr (.inr (.inr g)))))) H locs := by
  have h1 : H[a]? = some (vp_cell cA (z, .inr (.inr (.inr (.inr g))))) := by
    have h2 : H[a]? = some (vp_cell cA (z, .inr (.inr (.inr (.inr f))))) := hw.1 q0 _ ha
    rw [h2]
    rw [vp_cell_q, vp_cell_q]
    unfold arrV
    congr 2
    congr 1
    funext j
    exact congrArg _ (he j.val j.isLt)
  exact ⟨hw.1.set hw.2.1 ha h1 (fun _ _ => rfl), hw.2.1.set ha, hw.2.2⟩
/-- a static row of numbers copied whole into a row of the world -/
theorem g_copyT {a : Nat} {g : Nat → Int32} {nn : Int32} {index : Nat} (hc : g_C p s m args meth c cc own Ts nL D E T A) (hw : g_W D A s ws H locs) (hl : ls.size = nL) (k q1 k1 k2 k3 k4 : Nat) (hk : k < 5) (ha1 : ws[q1]? = some (a, .inl (E 0, g_tz k, .inl g))) (hn : nn = nI (g_tz k)) (h1 : Ts[k1]? = some (.methodLink own index arraycopyName)) (h2 : Ts[k2]? = some (.native arraycopyName)) (h3 : Ts[k3]? = some (.static arraycopyName)) (h4 : Ts[k4]? = some (.initialized "java/lang/System")) (hf : 1 ≤ R.frames) (hlo : (rest.map fun v => v.category).sum + 18 ≤ R.locals) (hdg : decode cc pc = .ok (.invokestatic index, 3))
    (kk : ∀ (H1 : Heap) (locs1 : List Loc), g_W D A s (ws.set q1 (a, .inl (E 0, g_tz k, .inl (g_tv k)))) H1 locs1 → W p l e R s m args below meth c H1 locs1 cells slots Q (F0 m (pc + 3) ls rest)) : W p l e R s m args below meth c H locs cells slots Q (F0 m pc ls (.int nn :: .int 0 :: .ref a :: .int 0 :: .ref (T k) :: rest)) := by
  subst hn
  obtain ⟨scr, hs1, hs2, hs3, hs4, -, hs5, hs7⟩ := (hc.2.2.2.2.2.2.1 k hk).2.kept hw.2.2.2.1
  obtain ⟨hx, hb, hml, hts, hown, hK, hSt, hNs, hA, hlk⟩ := hc
  obtain ⟨hP, hD, hS⟩ := hw
  have hz : g_tz k ≤ 12 := by
    rcases (show k = 0 ∨ k = 1 ∨ k = 2 ∨ k = 3 ∨ k = 4 by omega) with rfl | rfl | rfl | rfl | rfl <;> decide
  have hn4 : (nI (g_tz k)).toInt = (g_tz k : Int) := nI_ti (by omega)
  have hn0 : (nI (g_tz k)).toNatClampNeg = g_tz k := nI_clamp (by omega)
  have z0 : (0 : Int32).toNatClampNeg = 0 := rfl
  have z1 : (0 : Int32).toInt = 0 := by decide
  have hneg : ¬ nI (g_tz k) < 0 := nI_pos (by omega)
  intro T0 hT X
  have hc1 : H[a]? = some (vp_cell (E 0) (g_tz k, .inl g)) := hP q1 _ ha1
  obtain ⟨hs6, c0, hc0, cm0, hkk0⟩ := hs2
  obtain ⟨-, d1, hd1, cm1, hkk1⟩ := (hK.2 0 _ rfl).1 (g_tz k) (fun j => .int (g j))
  have hval : ∀ j : Nat, j < g_tz k → scr.slots[j]? = some (.int (g_tv k j)) := hs5
  obtain ⟨vm', X', step⟩ := X.arraycopy hx hown (hts _ (List.mem_of_getElem? h1)) (hts _ (List.mem_of_getElem? h2)) (hts _ (List.mem_of_getElem? h3)) (hts _ (List.mem_of_getElem? h4)) (src := T k) (dst := a) (cs := scr) (cd := vp_cell (E 0) (g_tz k, .inl g)) (srcPos := 0) (destPos := 0) (n := nI (g_tz k)) (by rw [hT]; exact hs1) (by rw [hT]; exact hc1)
    hs6 (fun _ h => by cases h) hs3 (fun h => by cases h) hc0 hd1 hkk0 hkk1 (by simp [refKind]) (by decide) (by decide) hneg
    (by rw [z1, hn4]; omega)
    (by rw [z1, hn4]; show ¬ _ > ((arrV (E 0) (g_tz k) (fun j => .int (g j))).slots.size : Int); rw [arrV_size]; omega)
    (fun vm₁ _ i hi => by
      rw [hn0] at hi
      have e : scr.slots.getD ((0 : Int32).toNatClampNeg + i) .null = .int (g_tv k (0 + i)) := by
        rw [z0, Array.getD_eq_getD_getElem?, hval _ (by omega)]
        rfl
      rw [e]
      exact ⟨rfl, trivial⟩)
    (g := F0 m pc ls (.int (nI (g_tz k)) :: .int 0 :: .ref a :: .int 0 :: .ref (T k) :: rest)) rfl (by show ls.size = _; rw [hl, hml]) (rest := rest) rfl (by rw [hb]; exact hdg) hf (by show 2 * 0 + _ + _ ≤ _; have hw9 : nativeFrameWords "java/lang/System" "arraycopy" 5 + 11 = 18 := (by decide); omega)
  have e1 : copied scr (vp_cell (E 0) (g_tz k, .inl g)) 0 0 (nI (g_tz k)) = vp_cell (E 0) (g_tz k, .inl (va_cpy (g_tv k) g (0 : Int32).toNatClampNeg (0 : Int32).toNatClampNeg (nI (g_tz k)).toNatClampNeg)) := va_copiedX (fun z => .int z) scr (E 0) (g_tv k) g hval (by rw [hn0, z0]; omega)
  rw [e1] at X' step
  have hlt : a < H.size := (Array.getElem?_eq_some_iff.mp hc1).1
  have oq : ∀ q : Nat, q ≠ a → (H.setIfInBounds a (vp_cell (E 0) (g_tz k, .inl (va_cpy (g_tv k) g (0 : Int32).toNatClampNeg (0 : Int32).toNatClampNeg (nI (g_tz k)).toNatClampNeg))))[q]? = H[q]? := fun q hq => by simp [Array.getElem?_setIfInBounds, Ne.symm hq]
  have hw2 : g_W D A s (ws.set q1 (a, .inl (E 0, g_tz k, .inl (va_cpy (g_tv k) g (0 : Int32).toNatClampNeg (0 : Int32).toNatClampNeg (nI (g_tz k)).toNatClampNeg)))) (H.setIfInBounds a (vp_cell (E 0) (g_tz k, .inl (va_cpy (g_tv k) g (0 : Int32).toNatClampNeg (0 : Int32).toNatClampNeg (nI (g_tz k)).toNatClampNeg)))) (locs ++ List.map (fun (q : Value × Nat) => { base := a, slot := (0 : Int32).toNatClampNeg + q.snd }) (scr.stretch (0 : Int32).toNatClampNeg (nI (g_tz k)).toNatClampNeg).zipIdx) := by
    refine ⟨hP.set hD ha1 (show (H.setIfInBounds a _)[a]? = some _ by simp [Array.getElem?_setIfInBounds, hlt]) oq, hD.set ha1, ⟨by simp; exact hS.1, fun q g1 g2 => ?_, fun q hq => ?_⟩⟩
    · rw [oq q (fun e => g2 (by rw [e]; exact hD.2 q1 _ ha1))]
      exact hS.2.1 q g1 g2
    · rcases List.mem_append.mp hq with h | h
      · exact hS.2.2 q h
      · obtain ⟨z, -, hz9⟩ := List.mem_map.mp h
        rw [← hz9]
        exact hD.2 q1 _ ha1
  have hq1 : q1 < ws.length := (List.getElem?_eq_some_iff.mp ha1).1
  have hw3 := g_reI (q0 := q1) (g := g_tv k) hw2 (by rw [List.getElem?_set_self hq1]) (fun j hj => by
    rw [hn0, z0]
    simp [va_cpy, hj])
  rw [List.set_set] at hw3
  have hheap : ((T0.setVm vm').setCell a (vp_cell (E 0) (g_tz k, .inl (va_cpy (g_tv k) g (0 : Int32).toNatClampNeg (0 : Int32).toNatClampNeg (nI (g_tz k)).toNatClampNeg)))).heap = H.setIfInBounds a (vp_cell (E 0) (g_tz k, .inl (va_cpy (g_tv k) g (0 : Int32).toNatClampNeg (0 : Int32).toNatClampNeg (nI (g_tz k)).toNatClampNeg))) := by rw [← hT]; rfl
  obtain ⟨t, a1, b1⟩ := kk _ _ hw3 _ hheap X'
  exact ⟨t, step t a1, b1⟩
/-- behind a constructor's call: the caller's other cells, and what the constructor made of its own -/
theorem g_callN {U : Type} {q0 : Nat × va_E} {w1 : U → va_W} {mc ms : Nat} {a : Array Value} (hc : g_C p s m args meth c cc own Ts nL D E T A) (hw : g_W D A s (ws ++ [q0]) H locs) (hr : va_Run p l e R s m args below meth c H locs cells slots mc ms (F0 m pc ls st0) rest (g_QN D [q0] w1 H.size a) (va_A [q0] H.size))
    (kk : ∀ (u : U) (H1 : Heap) (locs1 : List Loc), g_W D A s (ws ++ w1 u) H1 locs1 → W p l e R s m args below meth c H1 locs1 (cells + mc) (slots + ms) Q (F0 m (pc + 3) ls rest)) : W p l e R s m args below meth c H locs cells slots Q (F0 m pc ls st0) := by
  obtain ⟨hx, hb, hml, hts, hown, hK, hSt, hNs, hA, hlk⟩ := hc
  obtain ⟨hP, hD, hS⟩ := hw
  have hq0 : (ws ++ [q0])[ws.length]? = some q0 := by rw [List.getElem?_append_right (Nat.le_refl _), Nat.sub_self]; rfl
  have hF : ∀ q, va_A [q0] H.size q → A q := by
    rintro q (⟨k, e, hk⟩ | hz)
    · match k, hk with
      | 0, hk =>
        have e1 : q0 = (q, e) := Option.some.inj hk
        have := hD.2 ws.length q0 hq0
        rw [e1] at this
        exact this
      | k + 1, hk => simp at hk
    · exact hA q (Nat.le_trans hS.1 hz)
  intro T0 hT X
  obtain ⟨v, st₀, t, T', L, h0, X', hL, e1, e2, ⟨⟨hv, u, hp, hd⟩, hz, hk⟩, st⟩ := hr T0 hT X
  cases hv
  rw [h0] at hz hk
  have hk1 : ∀ q : Nat, q < H.size → ¬ va_A [q0] H.size q → T'.heap[q]? = H[q]? := fun q h1 h2 => by rw [e1]; exact hk q h1 h2
  have hwl : ∀ (k : Nat) (x : Nat × va_E), ws[k]? = some x → (ws ++ [q0])[k]? = some x := fun k x h => by
    have hlt : k < ws.length := (List.getElem?_eq_some_iff.mp h).1
    rw [List.getElem?_append_left hlt]
    exact h
  have hnot : ∀ (k : Nat) (x : Nat × va_E), ws[k]? = some x → ¬ va_A [q0] H.size x.1 := by
    rintro k x h (⟨j, e, hj⟩ | hz2)
    · match j, hj with
      | 0, hj =>
        have e3 : q0 = (x.1, e) := Option.some.inj hj
        have hlt : k < ws.length := (List.getElem?_eq_some_iff.mp h).1
        have := hD.1 k ws.length x q0 (hwl k x h) hq0 (by rw [e3])
        omega
      | j + 1, hj => simp at hj
    · exact absurd (hP k x (hwl k x h)).lt (Nat.not_lt.mpr hz2)
  have hp' : va_P D vwCl (w1 u) T'.heap := by rw [e1]; exact hp
  obtain ⟨t2, a1, b1⟩ := kk u T'.heap (locs ++ L) ⟨by
      intro k x hx9
      rcases Nat.lt_or_ge k ws.length with h | h
      · rw [List.getElem?_append_left h] at hx9
        exact (hP k x (hwl k x hx9)).kept (hk1 x.1 (hP k x (hwl k x hx9)).lt (hnot k x hx9))
      · rw [List.getElem?_append_right h] at hx9
        exact hp' _ x hx9, ⟨by
      intro i j x y hx9 hy9 he
      rcases Nat.lt_or_ge i ws.length with h | h <;> rcases Nat.lt_or_ge j ws.length with h' | h'
      · rw [List.getElem?_append_left h] at hx9
        rw [List.getElem?_append_left h'] at hy9
        exact hD.1 i j x y (hwl i x hx9) (hwl j y hy9) he
      · rw [List.getElem?_append_left h] at hx9
        rw [List.getElem?_append_right h'] at hy9
        have := hd.2 _ y hy9
        rw [← he] at this
        exact absurd this (hnot i x hx9)
      · rw [List.getElem?_append_right h] at hx9
        rw [List.getElem?_append_left h'] at hy9
        have := hd.2 _ x hx9
        rw [he] at this
        exact absurd this (hnot j y hy9)
      · rw [List.getElem?_append_right h] at hx9
        rw [List.getElem?_append_right h'] at hy9
        have := hd.1 _ _ x y hx9 hy9 he
        omega, by
      intro k x hx9
      rcases Nat.lt_or_ge k ws.length with h | h
      · rw [List.getElem?_append_left h] at hx9
        exact hD.2 k x (hwl k x hx9)
      · rw [List.getElem?_append_right h] at hx9
        exact hF _ (hd.2 _ x hx9)⟩, ⟨Nat.le_trans hS.1 (by rw [e1]; exact hz), fun q h1 h2 => by
      rw [hk1 q (Nat.lt_of_lt_of_le h1 hS.1) (fun z => h2 (hF q z))]; exact hS.2.1 q h1 h2, fun q hq => by
      rcases List.mem_append.mp hq with h | h
      · exact hS.2.2 q h
      · exact hF _ (hL q h)⟩⟩ T' rfl X'
  exact ⟨t2, st t2 a1, b1⟩
theorem g_preN {q0 : Nat × va_E} (hc : g_C p s m args meth c cc own Ts nL D E T A) (hAO : g_AO s) (hw : g_W D A s (ws ++ [q0]) H locs) (av : List Value) : ∀ U : State, U.heap = H → s.WarmedH U.vm → g_PN D E T av [q0] H.size av.toArray U := by
  intro U hU hW
  refine ⟨g_pre hc hw [ws.length] rfl ?_ av U hU hW, hAO.moved hW.alike⟩
  show [(ws ++ [q0])[ws.length]?] = [some q0]
  rw [List.getElem?_append_right (Nat.le_refl _), Nat.sub_self]
  rfl
variable {y : MethodName} {wy wy' : List Cond} {fr lo mc ms maxL index : Nat} {bytes : ByteArray} {host : String} {b : Nat} {eb : va_E}
/-- a nest mate's constructor -/
theorem g_cNN {U : Type} {w1 : U → va_W} (hc : g_C p s m args meth c cc own Ts nL D E T A) (hAO : g_AO s) (hw : g_W D A s (ws ++ [(b, eb)]) H locs) (hl : ls.size = nL) (hM : g_MN l D E T y wy fr lo mc ms [.ref b] [(b, eb)] w1) (hG : GoodIn Ts wy) (hwy : wy = Cond.code y bytes maxL none :: wy') (kn : Nat) (hkn : g_nW[kn]? = some (.methodLinkNest own index y host)) (k1 k2 : Nat) (h1 : Ts[k1]? = some (.initialized y.cls)) (h2 : Ts[k2]? = some (.instanceMethod y)) (hyn : y.name = "<init>")
    (hd : y.cls ≠ "java/lang/invoke/MethodHandle" ∧ y.cls ≠ "java/lang/invoke/VarHandle" ∧ (parseMethodDescriptor y.desc).map (fun d => d.parameters.length) = some 0) (hR : fr + 1 ≤ R.frames ∧ 8 + (maxL + 11) + lo ≤ R.locals)
    (hst : st0 = .ref b :: rest) (hcat : (rest.map fun v => v.category).sum ≤ 8) (hdg : decode cc pc = .ok (.invokespecial index, 3)) (hf : cells + mc ≤ R.cells ∧ slots + ms ≤ R.slots)
    (kk : ∀ (u : U) (H1 : Heap) (locs1 : List Loc), g_W D A s (ws ++ w1 u) H1 locs1 → W p l e R s m args below meth c H1 locs1 (cells + mc) (slots + ms) Q (F0 m (pc + 3) ls rest)) : W p l e R s m args below meth c H locs cells slots Q (F0 m pc ls st0) :=
  g_callN hc hw (va_runIN (host := host) (As := []) (rest := rest) ⟨hc.1, hc.2.1, hc.2.2.1, hc.2.2.2.2.1, hc.2.2.2.1⟩ (hM H.size) ⟨va_cnB 0 hc.2.2.2.1 hG hwy rfl rfl (hc.2.2.2.2.2.2.2.1 _ (List.mem_of_getElem? hkn)) (hc.2.2.2.1 _ (List.mem_of_getElem? h1)) hd hR, hyn, hc.2.2.2.1 _ (List.mem_of_getElem? h2)⟩ ⟨g_PN_blind D E T _ _ H.size, g_preN hc hAO hw _⟩ rfl rfl hl hst (lv_room hcat) hdg hf) kk
/-- a public class's constructor -/
theorem g_cNI {U : Type} {w1 : U → va_W} (hc : g_C p s m args meth c cc own Ts nL D E T A) (hAO : g_AO s) (hw : g_W D A s (ws ++ [(b, eb)]) H locs) (hl : ls.size = nL) (hM : g_MN l D E T y wy fr lo mc ms [.ref b] [(b, eb)] w1) (hG : GoodIn Ts wy) (hwy : wy = Cond.code y bytes maxL none :: wy') (h0 : (Cond.methodLink own index y).before args s = true) (h1 : (Cond.initialized y.cls).before args s = true) (h2 : (Cond.instanceMethod y).before args s = true) (hyn : y.name = "<init>")
    (hd : y.cls ≠ "java/lang/invoke/MethodHandle" ∧ y.cls ≠ "java/lang/invoke/VarHandle" ∧ (parseMethodDescriptor y.desc).map (fun d => d.parameters.length) = some 0) (hR : fr + 1 ≤ R.frames ∧ 8 + (maxL + 11) + lo ≤ R.locals)
    (hst : st0 = .ref b :: rest) (hcat : (rest.map fun v => v.category).sum ≤ 8) (hdg : decode cc pc = .ok (.invokespecial index, 3)) (hf : cells + mc ≤ R.cells ∧ slots + ms ≤ R.slots)
    (kk : ∀ (u : U) (H1 : Heap) (locs1 : List Loc), g_W D A s (ws ++ w1 u) H1 locs1 → W p l e R s m args below meth c H1 locs1 (cells + mc) (slots + ms) Q (F0 m (pc + 3) ls rest)) : W p l e R s m args below meth c H locs cells slots Q (F0 m pc ls st0) :=
  g_callN hc hw (va_runI (As := []) (rest := rest) ⟨hc.1, hc.2.1, hc.2.2.1, hc.2.2.2.2.1, hc.2.2.2.1⟩ (hM H.size) (cwI 0 hc.2.2.2.1 hG hwy rfl rfl h1 h0 h2 hyn hd hR) ⟨g_PN_blind D E T _ _ H.size, g_preN hc hAO hw _⟩ rfl rfl hl hst (lv_room hcat) hdg hf) kk
end GNew
