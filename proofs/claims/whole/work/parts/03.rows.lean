/-! MY ROWS 2: calls, fields, arrays, statics, ends, over the context g_C and the world g_W -/
section GRows
variable {p : Program} {l : Launch} {e : Env} {R : Room} {s : State} {m : MethodId} {args : Array Value} {below : List Frame} {meth : Method} {c : Code} {H : Heap} {locs : List Loc} {cells slots : Nat} {Q : State → Prop}
variable {cc : ByteArray} {own : String} {Ts : List Cond} {nL : Nat} {D : va_G} {E : Nat → ClassId} {T : Nat → Nat} {A : Nat → Prop} {ws wc w1 : va_W} {pc : Nat} {ls : Array Slot} {st0 rest As : List Value} {o : Option Value}
theorem g_pre (hc : g_C p s m args meth c cc own Ts nL D E T A) (hw : g_W D A s ws H locs) (isC : List Nat) (hnd : va_nd isC = true) (hC : isC.map (fun i => ws[i]?) = wc.map some) (av : List Value) : ∀ U : State, U.heap = H → s.WarmedH U.vm → g_Pc D E T av wc H.size av.toArray U := by
  obtain ⟨hx, hb, hml, hts, hown, hK, hSt, hNs, hA, hlk⟩ := hc
  obtain ⟨hP, hD, hS⟩ := hw
  intro U hU hW
  have hPc : va_P D vwCl wc H := by
    intro k q hk
    have h3 := congrArg (fun l => l[k]?) hC
    simp only [List.getElem?_map, hk, Option.map_some] at h3
    cases hi : isC[k]? with
    | none => rw [hi] at h3; simp at h3
    | some i =>
      rw [hi] at h3
      simp at h3
      exact hP i q h3
  have hDc : va_D A wc := hD.sub isC hnd hC
  have hF := va_free (wc := wc) hD hS hA isC hC
  refine ⟨rfl, by rw [hU], by rw [hU]; exact hPc, va_K.moved hW.alike hK, hDc.weaken (fun _ _ _ _ => trivial), ?_, hNs.warm hW⟩
  rw [hU]
  exact ((hSt.kept hS.2.1).narrow hF).moved hW.alike
theorem g_call {a : Array Value} (hc : g_C p s m args meth c cc own Ts nL D E T A) (hw : g_W D A s ws H locs) (isC : List Nat) (hC : isC.map (fun i => ws[i]?) = wc.map some) (hadr : w1.map (fun q => q.1) = wc.map (fun q => q.1)) (hr : va_Run p l e R s m args below meth c H locs cells slots 0 0 (F0 m pc ls st0) rest (g_Qc D wc w1 H.size o a) (va_A wc H.size))
    (kk : ∀ (H1 : Heap) (locs1 : List Loc), g_W D A s (g_set ws isC w1) H1 locs1 → W p l e R s m args below meth c H1 locs1 cells slots Q (F0 m (pc + 3) ls (o.toList ++ rest))) : W p l e R s m args below meth c H locs cells slots Q (F0 m pc ls st0) := by
  obtain ⟨hx, hb, hml, hts, hown, hK, hSt, hNs, hA, hlk⟩ := hc
  obtain ⟨hP, hD, hS⟩ := hw
  have hF := va_free (wc := wc) hD hS hA isC hC
  intro T0 hT X
  obtain ⟨v, st₀, t, T', L, h0, X', hL, e1, e2, ⟨⟨hv, hp⟩, hz, hk⟩, st⟩ := hr T0 hT X
  cases hv
  rw [h0] at hz hk
  have hk1 : ∀ q : Nat, q < H.size → ¬ va_A wc H.size q → T'.heap[q]? = H[q]? := fun q h1 h2 => by rw [e1]; exact hk q h1 h2
  obtain ⟨t2, a1, b1⟩ := kk T'.heap (locs ++ L) ⟨g_set_P hP hD hC hadr (by rw [e1]; exact hp) hk1, g_set_D hD hC hadr, ⟨Nat.le_trans hS.1 (by rw [e1]; exact hz), fun q h1 h2 => by
      rw [hk1 q (Nat.lt_of_lt_of_le h1 hS.1) (fun z => h2 (hF q z))]; exact hS.2.1 q h1 h2, fun q hq => by
      rcases List.mem_append.mp hq with h | h
      · exact hS.2.2 q h
      · exact hF _ (hL q h)⟩⟩ T' rfl X'
  exact ⟨t2, st t2 a1, b1⟩
variable {y : MethodName} {wy wy' : List Cond} {fr lo maxL index n : Nat} {bytes : ByteArray} {ret : Option FieldType} {C host : String} {b : Nat}
/-- a private method of the own class, on an object -/
theorem g_cV (hc : g_C p s m args meth c cc own Ts nL D E T A) (hw : g_W D A s ws H locs) (hl : ls.size = nL) (hM : g_M l D E T y wy fr lo (.ref b :: As) wc w1 o) (hT : GoodIn Ts (wsV own index C y wy)) (hwy : wy = Cond.code y bytes maxL ret :: wy')
    (hd : y.cls = C ∧ y.cls ≠ "java/lang/invoke/MethodHandle" ∧ y.cls ≠ "java/lang/invoke/VarHandle" ∧ (parseMethodDescriptor y.desc).map (fun d => d.parameters.length) = some n) (hR : fr + 1 ≤ R.frames ∧ 8 + (maxL + 11) + lo ≤ R.locals)
    (isC : List Nat) (q0 ci : Nat) {fs : List Value} {TT : u_T} {N : Nat} (hq : ws[q0]? = some (b, .inr (ci, fs))) (hci : vwCl[ci]? = some (C, TT, N)) (hnd : va_nd isC = true) (hC : isC.map (fun i => ws[i]?) = wc.map some) (adr : List Nat) (hadr1 : w1.map (fun q => q.1) = adr) (hadr2 : wc.map (fun q => q.1) = adr) (hlen : As.length = n) (hst : st0 = As.reverse ++ .ref b :: rest) (hcat : (rest.map fun v => v.category).sum ≤ 8) (hdg : decode cc pc = .ok (.invokevirtual index, 3)) (hf : cells ≤ R.cells ∧ slots ≤ R.slots)
    (kk : ∀ (H1 : Heap) (locs1 : List Loc), g_W D A s (g_set ws isC w1) H1 locs1 → W p l e R s m args below meth c H1 locs1 cells slots Q (F0 m (pc + 3) ls (o.toList ++ rest))) : W p l e R s m args below meth c H locs cells slots Q (F0 m pc ls st0) :=
  g_call hc hw isC hC (hadr1.trans hadr2.symm) (va_runV (As := As) (rest := rest) ⟨hc.1, hc.2.1, hc.2.2.1, hc.2.2.2.2.1, hc.2.2.2.1⟩ (hM H.size) (cwV n hc.2.2.2.1 hT hwy rfl rfl hd hR) ⟨g_blind D E T _ wc H.size, va_recv hc.2.2.2.2.2.1 hw.1 hci hq, g_pre hc hw isC hnd hC _⟩ rfl hlen hl hst (lv_room hcat) hdg hf) kk
/-- a static method of the own class -/
theorem g_cS (hc : g_C p s m args meth c cc own Ts nL D E T A) (hw : g_W D A s ws H locs) (hl : ls.size = nL) (hM : g_M l D E T y wy fr lo As wc w1 o) (hT : GoodIn Ts (va_wsS own index y wy)) (hwy : wy = Cond.code y bytes maxL ret :: wy')
    (hd : y.cls ≠ "java/lang/invoke/MethodHandle" ∧ y.cls ≠ "java/lang/invoke/VarHandle" ∧ (parseMethodDescriptor y.desc).map (fun d => d.parameters.length) = some n) (hR : fr + 1 ≤ R.frames ∧ 8 + (maxL + 11) + lo ≤ R.locals)
    (isC : List Nat) (hnd : va_nd isC = true) (hC : isC.map (fun i => ws[i]?) = wc.map some) (adr : List Nat) (hadr1 : w1.map (fun q => q.1) = adr) (hadr2 : wc.map (fun q => q.1) = adr) (hlen : As.length = n) (hst : st0 = As.reverse ++ rest) (hcat : (rest.map fun v => v.category).sum ≤ 8) (hdg : decode cc pc = .ok (.invokestatic index, 3)) (hf : cells ≤ R.cells ∧ slots ≤ R.slots)
    (kk : ∀ (H1 : Heap) (locs1 : List Loc), g_W D A s (g_set ws isC w1) H1 locs1 → W p l e R s m args below meth c H1 locs1 cells slots Q (F0 m (pc + 3) ls (o.toList ++ rest))) : W p l e R s m args below meth c H locs cells slots Q (F0 m pc ls st0) :=
  g_call hc hw isC hC (hadr1.trans hadr2.symm) (va_runS (As := As) (rest := rest) ⟨hc.1, hc.2.1, hc.2.2.1, hc.2.2.2.2.1, hc.2.2.2.1⟩ (hM H.size) (va_cwS n hc.2.2.2.1 hT hwy rfl rfl hd hR) ⟨g_blind D E T _ wc H.size, g_pre hc hw isC hnd hC _⟩ rfl hlen hl hst (lv_room hcat) hdg hf) kk
/-- a private method of a nest mate, on an object -/
theorem g_cVN (hc : g_C p s m args meth c cc own Ts nL D E T A) (hw : g_W D A s ws H locs) (hl : ls.size = nL) (hM : g_M l D E T y wy fr lo (.ref b :: As) wc w1 o) (hG : GoodIn Ts wy) (hwy : wy = Cond.code y bytes maxL ret :: wy') (kn : Nat) (hkn : g_nW[kn]? = some (.methodLinkNest own index y host)) (k1 k2 k3 : Nat) (h1 : Ts[k1]? = some (.initialized y.cls)) (h2 : Ts[k2]? = some (.instanceMethod y)) (h3 : Ts[k3]? = some (.selects C y y))
    (hd : y.cls ≠ "java/lang/invoke/MethodHandle" ∧ y.cls ≠ "java/lang/invoke/VarHandle" ∧ (parseMethodDescriptor y.desc).map (fun d => d.parameters.length) = some n) (hR : fr + 1 ≤ R.frames ∧ 8 + (maxL + 11) + lo ≤ R.locals)
    (isC : List Nat) (q0 ci : Nat) {fs : List Value} {TT : u_T} {N : Nat} (hq : ws[q0]? = some (b, .inr (ci, fs))) (hci : vwCl[ci]? = some (C, TT, N)) (hnd : va_nd isC = true) (hC : isC.map (fun i => ws[i]?) = wc.map some) (adr : List Nat) (hadr1 : w1.map (fun q => q.1) = adr) (hadr2 : wc.map (fun q => q.1) = adr) (hlen : As.length = n) (hst : st0 = As.reverse ++ .ref b :: rest) (hcat : (rest.map fun v => v.category).sum ≤ 8) (hdg : decode cc pc = .ok (.invokevirtual index, 3)) (hf : cells ≤ R.cells ∧ slots ≤ R.slots)
    (kk : ∀ (H1 : Heap) (locs1 : List Loc), g_W D A s (g_set ws isC w1) H1 locs1 → W p l e R s m args below meth c H1 locs1 cells slots Q (F0 m (pc + 3) ls (o.toList ++ rest))) : W p l e R s m args below meth c H locs cells slots Q (F0 m pc ls st0) :=
  g_call hc hw isC hC (hadr1.trans hadr2.symm) (va_runVN (host := host) (As := As) (rest := rest) ⟨hc.1, hc.2.1, hc.2.2.1, hc.2.2.2.2.1, hc.2.2.2.1⟩ (hM H.size) ⟨va_cnB n hc.2.2.2.1 hG hwy rfl rfl (hc.2.2.2.2.2.2.2.1 _ (List.mem_of_getElem? hkn)) (hc.2.2.2.1 _ (List.mem_of_getElem? h1)) hd hR, hc.2.2.2.1 _ (List.mem_of_getElem? h2), hc.2.2.2.1 _ (List.mem_of_getElem? h3)⟩ ⟨g_blind D E T _ wc H.size, va_recv hc.2.2.2.2.2.1 hw.1 hci hq, g_pre hc hw isC hnd hC _⟩ rfl hlen hl hst (lv_room hcat) hdg hf) kk
/-- a private static method of a nest mate -/
theorem g_cSN (hc : g_C p s m args meth c cc own Ts nL D E T A) (hw : g_W D A s ws H locs) (hl : ls.size = nL) (hM : g_M l D E T y wy fr lo As wc w1 o) (hG : GoodIn Ts wy) (hwy : wy = Cond.code y bytes maxL ret :: wy') (kn : Nat) (hkn : g_nW[kn]? = some (.methodLinkNest own index y host)) (k1 k2 : Nat) (h1 : Ts[k1]? = some (.initialized y.cls)) (h2 : Ts[k2]? = some (.static y))
    (hd : y.cls ≠ "java/lang/invoke/MethodHandle" ∧ y.cls ≠ "java/lang/invoke/VarHandle" ∧ (parseMethodDescriptor y.desc).map (fun d => d.parameters.length) = some n) (hR : fr + 1 ≤ R.frames ∧ 8 + (maxL + 11) + lo ≤ R.locals)
    (isC : List Nat) (hnd : va_nd isC = true) (hC : isC.map (fun i => ws[i]?) = wc.map some) (adr : List Nat) (hadr1 : w1.map (fun q => q.1) = adr) (hadr2 : wc.map (fun q => q.1) = adr) (hlen : As.length = n) (hst : st0 = As.reverse ++ rest) (hcat : (rest.map fun v => v.category).sum ≤ 8) (hdg : decode cc pc = .ok (.invokestatic index, 3)) (hf : cells ≤ R.cells ∧ slots ≤ R.slots)
    (kk : ∀ (H1 : Heap) (locs1 : List Loc), g_W D A s (g_set ws isC w1) H1 locs1 → W p l e R s m args below meth c H1 locs1 cells slots Q (F0 m (pc + 3) ls (o.toList ++ rest))) : W p l e R s m args below meth c H locs cells slots Q (F0 m pc ls st0) :=
  g_call hc hw isC hC (hadr1.trans hadr2.symm) (va_runSN (host := host) (As := As) (rest := rest) ⟨hc.1, hc.2.1, hc.2.2.1, hc.2.2.2.2.1, hc.2.2.2.1⟩ (hM H.size) ⟨va_cnB n hc.2.2.2.1 hG hwy rfl rfl (hc.2.2.2.2.2.2.2.1 _ (List.mem_of_getElem? hkn)) (hc.2.2.2.1 _ (List.mem_of_getElem? h1)) hd hR, hc.2.2.2.1 _ (List.mem_of_getElem? h2), trivial⟩ ⟨g_blind D E T _ wc H.size, g_pre hc hw isC hnd hC _⟩ rfl hlen hl hst (lv_room hcat) hdg hf) kk
-- fields
variable {ref : String} {TT : u_T} {N ci : Nat} {a : Nat} {fs : List Value} {v : Value}
theorem g_get (hc : g_C p s m args meth c cc own Ts nL D E T A) (hw : g_W D A s ws H locs) (hin : ∀ w ∈ u_ws C TT N, w ∈ Ts) (q0 k i9 : Nat) (he : ws[q0]? = some (a, .inr (ci, fs))) (hci : vwCl[ci]? = some (C, TT, N)) (hk : k < N) (hi9 : Ts[i9]? = some (.fieldLink own index (TT k).1 (TT k).2.1 (TT k).2.2.1)) (hv : fs[k]? = some v) (hdg : decode cc pc = .ok (.getfield index, 3))
    (kk : W p l e R s m args below meth c H locs cells slots Q (F0 m (pc + 3) ls (v :: rest))) : W p l e R s m args below meth c H locs cells slots Q (F0 m pc ls (.ref a :: rest)) :=
  va_get (D := D) hc.1 hc.2.1 hc.2.2.2.1 hin hc.2.2.2.2.1 hc.2.2.2.2.2.1 hw.1 q0 he hci k hk (hc.2.2.2.1 _ (List.mem_of_getElem? hi9)) (fun _ h9 => h9) hv hdg kk
theorem g_getN (hc : g_C p s m args meth c cc own Ts nL D E T A) (hw : g_W D A s ws H locs) (hin : ∀ w ∈ u_ws C TT N, w ∈ Ts) (q0 k i9 : Nat) (he : ws[q0]? = some (a, .inr (ci, fs))) (hci : vwCl[ci]? = some (C, TT, N)) (hk : k < N) (hi9 : g_nW[i9]? = some (.fieldLinkNest own index (TT k).1 (TT k).2.1 (TT k).2.2.1 host)) (hv : fs[k]? = some v) (hdg : decode cc pc = .ok (.getfield index, 3))
    (kk : W p l e R s m args below meth c H locs cells slots Q (F0 m (pc + 3) ls (v :: rest))) : W p l e R s m args below meth c H locs cells slots Q (F0 m pc ls (.ref a :: rest)) :=
  va_getN (D := D) (host := host) hc.1 hc.2.1 hc.2.2.2.1 hin hc.2.2.2.2.1 hc.2.2.2.2.2.1 hw.1 q0 he hci k hk (hc.2.2.2.2.2.2.2.1.use i9 hi9 args) (fun _ h9 => h9) hv hdg kk
theorem g_put (hc : g_C p s m args meth c cc own Ts nL D E T A) (hw : g_W D A s ws H locs) (hin : ∀ w ∈ u_ws C TT N, w ∈ Ts) (ty0 : Nat → FieldType) (hty : ∀ k, k < N → parseFieldDescriptor (TT k).2.2.1 = some (ty0 k)) (hnm : ∀ a, a < N → ∀ b, b < N → a ≠ b → (TT a).2.1 ≠ (TT b).2.1) (q0 k i9 : Nat) (he : ws[q0]? = some (a, .inr (ci, fs))) (hci : vwCl[ci]? = some (C, TT, N)) (hk : k < N) (hi9 : Ts[i9]? = some (.fieldLink own index (TT k).1 (TT k).2.1 (TT k).2.2.1)) (hfin : (TT k).2.2.2 = false) (hn : narrow (ty0 k) v = v) (hfit : fits (ty0 k) v = true) (hl : k < fs.length) (hdg : decode cc pc = .ok (.putfield index, 3))
    (kk : ∀ (H1 : Heap) (locs1 : List Loc), g_W D A s (ws.set q0 (a, .inr (ci, fs.set k v))) H1 locs1 → W p l e R s m args below meth c H1 locs1 cells slots Q (F0 m (pc + 3) ls rest)) : W p l e R s m args below meth c H locs cells slots Q (F0 m pc ls (v :: .ref a :: rest)) :=
  va_put (D := D) hc.1 hc.2.1 hc.2.2.2.1 hin ty0 hty hnm hc.2.2.2.2.1 hc.2.2.2.2.2.1 hw.1 hw.2.1 hw.2.2 q0 he hci k hk (hc.2.2.2.1 _ (List.mem_of_getElem? hi9)) (fun _ h9 => h9) hfin (hty k hk) hn hfit hl hdg (fun H1 locs1 h1 h2 h3 => kk H1 locs1 ⟨h1, h2, h3⟩)
theorem g_putN (hc : g_C p s m args meth c cc own Ts nL D E T A) (hw : g_W D A s ws H locs) (hin : ∀ w ∈ u_ws C TT N, w ∈ Ts) (ty0 : Nat → FieldType) (hty : ∀ k, k < N → parseFieldDescriptor (TT k).2.2.1 = some (ty0 k)) (hnm : ∀ a, a < N → ∀ b, b < N → a ≠ b → (TT a).2.1 ≠ (TT b).2.1) (q0 k i9 : Nat) (he : ws[q0]? = some (a, .inr (ci, fs))) (hci : vwCl[ci]? = some (C, TT, N)) (hk : k < N) (hi9 : g_nW[i9]? = some (.fieldLinkNest own index (TT k).1 (TT k).2.1 (TT k).2.2.1 host)) (hfin : (TT k).2.2.2 = false) (hn : narrow (ty0 k) v = v) (hfit : fits (ty0 k) v = true) (hl : k < fs.length) (hdg : decode cc pc = .ok (.putfield index, 3))
    (kk : ∀ (H1 : Heap) (locs1 : List Loc), g_W D A s (ws.set q0 (a, .inr (ci, fs.set k v))) H1 locs1 → W p l e R s m args below meth c H1 locs1 cells slots Q (F0 m (pc + 3) ls rest)) : W p l e R s m args below meth c H locs cells slots Q (F0 m pc ls (v :: .ref a :: rest)) :=
  va_putN (D := D) (host := host) hc.1 hc.2.1 hc.2.2.2.1 hin ty0 hty hnm hc.2.2.2.2.1 hc.2.2.2.2.2.1 hw.1 hw.2.1 hw.2.2 q0 he hci k hk (hc.2.2.2.2.2.2.2.1.use i9 hi9 args) (fun _ h9 => h9) hfin (hty k hk) hn hfit hl hdg (fun H1 locs1 h1 h2 h3 => kk H1 locs1 ⟨h1, h2, h3⟩)
-- arrays; j: the index as a number
theorem g_ild (hc : g_C p s m args meth c cc own Ts nL D E T A) (hw : g_W D A s ws H locs) (q0 j : Nat) {z : Nat} {f : Nat → Int32} {i : Int32} (ha : ws[q0]? = some (a, .inl (E 0, z, .inl f))) (hi : i = nI j) (hj : j < z) (hz : z < 2 ^ 31) (hdg : decode cc pc = .ok (.iaload, 1))
    (kk : W p l e R s m args below meth c H locs cells slots Q (F0 m (pc + 1) ls (.int (f j) :: rest))) : W p l e R s m args below meth c H locs cells slots Q (F0 m pc ls (.int i :: .ref a :: rest)) := by
  subst hi
  refine va_iald (D := D) hc.1 hc.2.1 hc.2.2.2.2.2.1 hw.1 q0 0 ha rfl (vp_in_nI hj hz) hdg ?_
  rw [nI_clamp (Nat.lt_trans hj hz)]
  exact kk
theorem g_cld (hc : g_C p s m args meth c cc own Ts nL D E T A) (hw : g_W D A s ws H locs) (q0 j : Nat) {z : Nat} {f : Nat → Int32} {i : Int32} (ha : ws[q0]? = some (a, .inl (E 2, z, .inl f))) (hi : i = nI j) (hj : j < z) (hz : z < 2 ^ 31) (hdg : decode cc pc = .ok (.caload, 1))
    (kk : W p l e R s m args below meth c H locs cells slots Q (F0 m (pc + 1) ls (.int (f j) :: rest))) : W p l e R s m args below meth c H locs cells slots Q (F0 m pc ls (.int i :: .ref a :: rest)) := by
  subst hi
  refine va_cald (D := D) hc.1 hc.2.1 hc.2.2.2.2.2.1 hw.1 q0 2 ha rfl (vp_in_nI hj hz) hdg ?_
  rw [nI_clamp (Nat.lt_trans hj hz)]
  exact kk
theorem g_zld (hc : g_C p s m args meth c cc own Ts nL D E T A) (hw : g_W D A s ws H locs) (q0 j : Nat) {z : Nat} {f : Nat → Int32} {i : Int32} (ha : ws[q0]? = some (a, .inl (E 3, z, .inl f))) (hi : i = nI j) (hj : j < z) (hz : z < 2 ^ 31) (hdg : decode cc pc = .ok (.baload, 1))
    (kk : W p l e R s m args below meth c H locs cells slots Q (F0 m (pc + 1) ls (.int (f j) :: rest))) : W p l e R s m args below meth c H locs cells slots Q (F0 m pc ls (.int i :: .ref a :: rest)) := by
  subst hi
  refine va_zald (D := D) hc.1 hc.2.1 hc.2.2.2.2.2.1 hw.1 q0 3 ha rfl (vp_in_nI hj hz) hdg ?_
  rw [nI_clamp (Nat.lt_trans hj hz)]
  exact kk
theorem g_fld (hc : g_C p s m args meth c cc own Ts nL D E T A) (hw : g_W D A s ws H locs) (q0 j : Nat) {z : Nat} {f : Nat → UInt32} {i : Int32} (ha : ws[q0]? = some (a, .inl (E 1, z, .inr (.inr (.inl f))))) (hi : i = nI j) (hj : j < z) (hz : z < 2 ^ 31) (hdg : decode cc pc = .ok (.faload, 1))
    (kk : W p l e R s m args below meth c H locs cells slots Q (F0 m (pc + 1) ls (.float (f j) :: rest))) : W p l e R s m args below meth c H locs cells slots Q (F0 m pc ls (.int i :: .ref a :: rest)) := by
  subst hi
  refine va_fald (D := D) hc.1 hc.2.1 hc.2.2.2.2.2.1 hw.1 q0 1 ha rfl (vp_in_nI hj hz) hdg ?_
  rw [nI_clamp (Nat.lt_trans hj hz)]
  exact kk
theorem g_ist (hc : g_C p s m args meth c cc own Ts nL D E T A) (hw : g_W D A s ws H locs) (q0 j : Nat) {z : Nat} {f : Nat → Int32} {i x : Int32} (ha : ws[q0]? = some (a, .inl (E 0, z, .inl f))) (hi : i = nI j) (hj : j < z) (hz : z < 2 ^ 31) (hdg : decode cc pc = .ok (.iastore, 1))
    (kk : ∀ (H1 : Heap) (locs1 : List Loc), g_W D A s (ws.set q0 (a, .inl (E 0, z, .inl (upd f j x)))) H1 locs1 → W p l e R s m args below meth c H1 locs1 cells slots Q (F0 m (pc + 1) ls rest)) : W p l e R s m args below meth c H locs cells slots Q (F0 m pc ls (.int x :: .int i :: .ref a :: rest)) := by
  subst hi
  refine va_iast (D := D) hc.1 hc.2.1 hc.2.2.2.2.2.1 hw.1 hw.2.1 hw.2.2 q0 0 ha rfl (vp_in_nI hj hz) hdg ?_
  rw [nI_clamp (Nat.lt_trans hj hz)]
  exact fun H1 locs1 h1 h2 h3 => kk H1 locs1 ⟨h1, h2, h3⟩
theorem g_cst (hc : g_C p s m args meth c cc own Ts nL D E T A) (hw : g_W D A s ws H locs) (q0 j : Nat) {z : Nat} {f : Nat → Int32} {i x x' : Int32} (ha : ws[q0]? = some (a, .inl (E 2, z, .inl f))) (hi : i = nI j) (hj : j < z) (hz : z < 2 ^ 31) (hx' : vp_nar .char x = x') (hdg : decode cc pc = .ok (.castore, 1))
    (kk : ∀ (H1 : Heap) (locs1 : List Loc), g_W D A s (ws.set q0 (a, .inl (E 2, z, .inl (upd f j x')))) H1 locs1 → W p l e R s m args below meth c H1 locs1 cells slots Q (F0 m (pc + 1) ls rest)) : W p l e R s m args below meth c H locs cells slots Q (F0 m pc ls (.int x :: .int i :: .ref a :: rest)) := by
  subst hi
  subst hx'
  refine va_cast (D := D) hc.1 hc.2.1 hc.2.2.2.2.2.1 hw.1 hw.2.1 hw.2.2 q0 2 ha rfl (vp_in_nI hj hz) hdg ?_
  rw [nI_clamp (Nat.lt_trans hj hz)]
  exact fun H1 locs1 h1 h2 h3 => kk H1 locs1 ⟨h1, h2, h3⟩
theorem g_zst (hc : g_C p s m args meth c cc own Ts nL D E T A) (hw : g_W D A s ws H locs) (q0 j : Nat) {z : Nat} {f : Nat → Int32} {i x x' : Int32} (ha : ws[q0]? = some (a, .inl (E 3, z, .inl f))) (hi : i = nI j) (hj : j < z) (hz : z < 2 ^ 31) (hx' : vp_nar .boolean x = x') (hdg : decode cc pc = .ok (.bastore, 1))
    (kk : ∀ (H1 : Heap) (locs1 : List Loc), g_W D A s (ws.set q0 (a, .inl (E 3, z, .inl (upd f j x')))) H1 locs1 → W p l e R s m args below meth c H1 locs1 cells slots Q (F0 m (pc + 1) ls rest)) : W p l e R s m args below meth c H locs cells slots Q (F0 m pc ls (.int x :: .int i :: .ref a :: rest)) := by
  subst hi
  subst hx'
  refine va_zast (D := D) hc.1 hc.2.1 hc.2.2.2.2.2.1 hw.1 hw.2.1 hw.2.2 q0 3 ha rfl (vp_in_nI hj hz) hdg ?_
  rw [nI_clamp (Nat.lt_trans hj hz)]
  exact fun H1 locs1 h1 h2 h3 => kk H1 locs1 ⟨h1, h2, h3⟩
theorem g_fst (hc : g_C p s m args meth c cc own Ts nL D E T A) (hw : g_W D A s ws H locs) (q0 j : Nat) {z : Nat} {f : Nat → UInt32} {i : Int32} {x : UInt32} (ha : ws[q0]? = some (a, .inl (E 1, z, .inr (.inr (.inl f))))) (hi : i = nI j) (hj : j < z) (hz : z < 2 ^ 31) (hdg : decode cc pc = .ok (.fastore, 1))
    (kk : ∀ (H1 : Heap) (locs1 : List Loc), g_W D A s (ws.set q0 (a, .inl (E 1, z, .inr (.inr (.inl (vf_upd f j x)))))) H1 locs1 → W p l e R s m args below meth c H1 locs1 cells slots Q (F0 m (pc + 1) ls rest)) : W p l e R s m args below meth c H locs cells slots Q (F0 m pc ls (.float x :: .int i :: .ref a :: rest)) := by
  subst hi
  refine va_fast (D := D) hc.1 hc.2.1 hc.2.2.2.2.2.1 hw.1 hw.2.1 hw.2.2 q0 1 ha rfl (vp_in_nI hj hz) hdg ?_
  rw [nI_clamp (Nat.lt_trans hj hz)]
  exact fun H1 locs1 h1 h2 h3 => kk H1 locs1 ⟨h1, h2, h3⟩
/-- a place of an array of objects -/
theorem g_qld (hc : g_C p s m args meth c cc own Ts nL D E T A) (hw : g_W D A s ws H locs) (q0 t0 j : Nat) {z : Nat} {f : Nat → Option Nat} {i : Int32} {cA : ClassId} {CC : String} (ha : ws[q0]? = some (a, .inl (cA, z, .inr (.inr (.inr (.inr f)))))) (ht : (g_Ty E)[t0]? = some (cA, .object CC)) (hi : i = nI j) (hj : j < z) (hz : z < 2 ^ 31) {r : Value} (hr : va_rf (f j) = r) (hdg : decode cc pc = .ok (.aaload, 1))
    (kk : W p l e R s m args below meth c H locs cells slots Q (F0 m (pc + 1) ls (r :: rest))) : W p l e R s m args below meth c H locs cells slots Q (F0 m pc ls (.int i :: .ref a :: rest)) := by
  subst hi
  subst hr
  refine va_aldq (D := D) hc.1 hc.2.1 hc.2.2.2.2.2.1 hw.1 q0 t0 ha ht (vp_in_nI hj hz) hdg ?_
  rw [nI_clamp (Nat.lt_trans hj hz)]
  exact kk
-- the same cells in other words
theorem g_reF {q0 : Nat} {z : Nat} {a : Nat} {cA : ClassId} {f g : Nat → UInt32} (hw : g_W D A s ws H locs) (ha : ws[q0]? = some (a, .inl (cA, z, .inr (.inr (.inl f))))) (he : ∀ j, j < z → f j = g j) : g_W D A s (ws.set q0 (a, .inl (cA, z, .inr (.inr (.inl g))))) H locs := by
  have h1 : H[a]? = some (vp_cell cA (z, .inr (.inr (.inl g)))) := by
    have h2 : H[a]? = some (vp_cell cA (z, .inr (.inr (.inl f)))) := hw.1 q0 _ ha
    rw [h2]
    rw [vp_cell_f, vp_cell_f]
    unfold arrV
    congr 2
    congr 1
    funext j
    exact congrArg _ (he j.val j.isLt)
  exact ⟨hw.1.set hw.2.1 ha h1 (fun _ _ => rfl), hw.2.1.set ha, hw.2.2⟩
theorem g_reI {q0 : Nat} {z : Nat} {a : Nat} {cA : ClassId} {f g : Nat → Int32} (hw : g_W D A s ws H locs) (ha : ws[q0]? = some (a, .inl (cA, z, .inl f))) (he : ∀ j, j < z → f j = g j) : g_W D A s (ws.set q0 (a, .inl (cA, z, .inl g))) H locs := by
  have h1 : H[a]? = some (vp_cell cA (z, .inl g)) := by
    have h2 : H[a]? = some (vp_cell cA (z, .inl f)) := hw.1 q0 _ ha
    rw [h2]
    rw [vp_cell_i, vp_cell_i]
    unfold arrV
    congr 2
    congr 1
    funext j
    exact congrArg _ (he j.val j.isLt)
  exact ⟨hw.1.set hw.2.1 ha h1 (fun _ _ => rfl), hw.2.1.set ha, hw.2.2⟩
theorem g_copyF (hc : g_C p s m args meth c cc own Ts nL D E T A) (hw : g_W D A s ws H locs) (hl : ls.size = nL) (q0 q1 k1 k2 k3 k4 : Nat) {a0 z : Nat} {f g : Nat → UInt32} {nn : Int32} (ha0 : ws[q0]? = some (a0, .inl (E 1, z, .inr (.inr (.inl f))))) (ha1 : ws[q1]? = some (a, .inl (E 1, z, .inr (.inr (.inl g))))) (hn : nn = nI z) (hz : z < 2 ^ 31) (h1 : Ts[k1]? = some (.methodLink own index arraycopyName)) (h2 : Ts[k2]? = some (.native arraycopyName)) (h3 : Ts[k3]? = some (.static arraycopyName)) (h4 : Ts[k4]? = some (.initialized "java/lang/System")) (hf : 1 ≤ R.frames) (hlo : (rest.map fun v => v.category).sum + 18 ≤ R.locals) (hdg : decode cc pc = .ok (.invokestatic index, 3))
    (kk : ∀ (H1 : Heap) (locs1 : List Loc), g_W D A s (ws.set q1 (a, .inl (E 1, z, .inr (.inr (.inl f))))) H1 locs1 → W p l e R s m args below meth c H1 locs1 cells slots Q (F0 m (pc + 3) ls rest)) : W p l e R s m args below meth c H locs cells slots Q (F0 m pc ls (.int nn :: .int 0 :: .ref a :: .int 0 :: .ref a0 :: rest)) := by
  subst hn
  have hz0 : (0 : Int32).toNatClampNeg = 0 := rfl
  refine va_copyf (D := D) hc.1 hc.2.1 (hc.2.2.1.trans hl.symm) hc.2.2.2.2.1 (hc.2.2.2.1 _ (List.mem_of_getElem? h1)) (hc.2.2.2.1 _ (List.mem_of_getElem? h2)) (hc.2.2.2.1 _ (List.mem_of_getElem? h3)) (hc.2.2.2.1 _ (List.mem_of_getElem? h4)) hc.2.2.2.2.2.1 hw.1 hw.2.1 hw.2.2 q0 q1 1 1 ha0 ha1 rfl rfl rfl (by decide) (by decide) (nI_pos hz) (by rw [nI_clamp hz, hz0]; omega) (by rw [nI_clamp hz, hz0]; omega) (fun _ _ => rfl) hf hlo hdg (fun H1 locs1 b1 b2 b3 => kk H1 locs1 ?_)
  have hq : q1 < ws.length := (List.getElem?_eq_some_iff.mp ha1).1
  have := g_reF (q0 := q1) (g := f) (⟨b1, b2, b3⟩ : g_W D A s _ H1 locs1) (by rw [List.getElem?_set_self hq]) (fun j hj => by
    show va_cpy f g _ _ _ j = f j
    rw [nI_clamp hz, hz0]
    simp [va_cpy, hj])
  rw [List.set_set] at this
  exact this
theorem g_copyI (hc : g_C p s m args meth c cc own Ts nL D E T A) (hw : g_W D A s ws H locs) (hl : ls.size = nL) (q0 q1 k1 k2 k3 k4 : Nat) {a0 z : Nat} {f g : Nat → Int32} {nn : Int32} (ha0 : ws[q0]? = some (a0, .inl (E 0, z, .inl f))) (ha1 : ws[q1]? = some (a, .inl (E 0, z, .inl g))) (hn : nn = nI z) (hz : z < 2 ^ 31) (h1 : Ts[k1]? = some (.methodLink own index arraycopyName)) (h2 : Ts[k2]? = some (.native arraycopyName)) (h3 : Ts[k3]? = some (.static arraycopyName)) (h4 : Ts[k4]? = some (.initialized "java/lang/System")) (hf : 1 ≤ R.frames) (hlo : (rest.map fun v => v.category).sum + 18 ≤ R.locals) (hdg : decode cc pc = .ok (.invokestatic index, 3))
    (kk : ∀ (H1 : Heap) (locs1 : List Loc), g_W D A s (ws.set q1 (a, .inl (E 0, z, .inl f))) H1 locs1 → W p l e R s m args below meth c H1 locs1 cells slots Q (F0 m (pc + 3) ls rest)) : W p l e R s m args below meth c H locs cells slots Q (F0 m pc ls (.int nn :: .int 0 :: .ref a :: .int 0 :: .ref a0 :: rest)) := by
  subst hn
  have hz0 : (0 : Int32).toNatClampNeg = 0 := rfl
  refine va_copyi (D := D) hc.1 hc.2.1 (hc.2.2.1.trans hl.symm) hc.2.2.2.2.1 (hc.2.2.2.1 _ (List.mem_of_getElem? h1)) (hc.2.2.2.1 _ (List.mem_of_getElem? h2)) (hc.2.2.2.1 _ (List.mem_of_getElem? h3)) (hc.2.2.2.1 _ (List.mem_of_getElem? h4)) hc.2.2.2.2.2.1 hw.1 hw.2.1 hw.2.2 q0 q1 0 0 ha0 ha1 rfl rfl rfl (by decide) (by decide) (nI_pos hz) (by rw [nI_clamp hz, hz0]; omega) (by rw [nI_clamp hz, hz0]; omega) (fun _ _ => rfl) hf hlo hdg (fun H1 locs1 b1 b2 b3 => kk H1 locs1 ?_)
  have hq : q1 < ws.length := (List.getElem?_eq_some_iff.mp ha1).1
  have := g_reI (q0 := q1) (g := f) (⟨b1, b2, b3⟩ : g_W D A s _ H1 locs1) (by rw [List.getElem?_set_self hq]) (fun j hj => by
    show va_cpy f g _ _ _ j = f j
    rw [nI_clamp hz, hz0]
    simp [va_cpy, hj])
  rw [List.set_set] at this
  exact this
-- statics
theorem g_gst (hc : g_C p s m args meth c cc own Ts nL D E T A) (hw : g_W D A s ws H locs) (k i9 : Nat) (hk : k < 5) (hi9 : Ts[i9]? = some (.fieldLink own index "SpinWheels" (g_tn k) "[I")) (hdg : decode cc pc = .ok (.getstatic index, 3))
    (kk : W p l e R s m args below meth c H locs cells slots Q (F0 m (pc + 3) ls (.ref (T k) :: rest))) : W p l e R s m args below meth c H locs cells slots Q (F0 m pc ls rest) :=
  va_gets hc.1 hc.2.1 (hc.2.2.2.2.2.2.1 k hk).1 hw.2.2 hc.2.2.2.2.1 (hc.2.2.2.1 _ (List.mem_of_getElem? hi9)) (fun _ h9 => h9) hdg kk
theorem g_gstN (hc : g_C p s m args meth c cc own Ts nL D E T A) (hw : g_W D A s ws H locs) (k i9 : Nat) (hk : k < 5) (hi9 : g_nW[i9]? = some (.fieldLinkNest own index "SpinWheels" (g_tn k) "[I" host)) (hdg : decode cc pc = .ok (.getstatic index, 3))
    (kk : W p l e R s m args below meth c H locs cells slots Q (F0 m (pc + 3) ls (.ref (T k) :: rest))) : W p l e R s m args below meth c H locs cells slots Q (F0 m pc ls rest) :=
  va_getsN (host := host) hc.1 hc.2.1 (hc.2.2.2.2.2.2.1 k hk).1 hw.2.2 hc.2.2.2.2.1 (hc.2.2.2.2.2.2.2.1.use i9 hi9 args) (fun _ h9 => h9) hdg kk
theorem g_tld (hc : g_C p s m args meth c cc own Ts nL D E T A) (hw : g_W D A s ws H locs) (k j : Nat) (hk : k < 5) {i : Int32} (hi : i = nI j) (hj : j < g_tz k) (hdg : decode cc pc = .ok (.iaload, 1))
    (kk : W p l e R s m args below meth c H locs cells slots Q (F0 m (pc + 1) ls (.int (g_tv k j) :: rest))) : W p l e R s m args below meth c H locs cells slots Q (F0 m pc ls (.int i :: .ref (T k) :: rest)) := by
  subst hi
  have hz : g_tz k < 2 ^ 31 := by
    unfold g_tz
    split <;> decide
  refine va_ti hc.1 hc.2.1 (hc.2.2.2.2.2.2.1 k hk).2 hw.2.2 (vp_in_nI hj hz) (v := .int (g_tv k j)) ?_ hdg kk
  rw [nI_clamp (Nat.lt_trans hj hz)]
theorem g_tlen (hc : g_C p s m args meth c cc own Ts nL D E T A) (hw : g_W D A s ws H locs) (k : Nat) (hk : k < 5) {v : Int32} (hv : Int32.ofNat (g_tz k) = v) (hdg : decode cc pc = .ok (.arraylength, 1))
    (kk : W p l e R s m args below meth c H locs cells slots Q (F0 m (pc + 1) ls (.int v :: rest))) : W p l e R s m args below meth c H locs cells slots Q (F0 m pc ls (.ref (T k) :: rest)) :=
  va_tlen hc.1 hc.2.1 (hc.2.2.2.2.2.2.1 k hk).2 hw.2.2 hv hdg kk
-- ends
theorem g_iret {ws1 : va_W} {v : Int32} {o : Option Value} (hQ : Q = g_Q below D A s args ws1 o) (hc : g_C p s m args meth c cc own Ts nL D E T A) (hw : g_W D A s ws H locs) (hr : meth.sig.returnType = some .int) (hv : o = some (.int v)) (hws : ws = ws1) (hdg : decode cc pc = .ok (.ireturn, 1)) : W p l e R s m args below meth c H locs 0 0 Q (F0 m pc ls [.int v]) := by
  subst hQ
  subst hv
  subst hws
  exact W.iret hc.1 hc.2.1 hr (fun t ht hW => ⟨⟨rfl, by rw [ht]; exact hw.1⟩, hw.2.2.F ht⟩) hw.2.2.2.2 hdg hc.2.2.2.2.2.2.2.2.2
theorem g_lret {ws1 : va_W} {v : Int64} {o : Option Value} (hQ : Q = g_Q below D A s args ws1 o) (hc : g_C p s m args meth c cc own Ts nL D E T A) (hw : g_W D A s ws H locs) (hr : meth.sig.returnType = some .long) (hv : o = some (.long v)) (hws : ws = ws1) (hdg : decode cc pc = .ok (.lreturn, 1)) : W p l e R s m args below meth c H locs 0 0 Q (F0 m pc ls [.long v]) := by
  subst hQ
  subst hv
  subst hws
  exact W.lret hc.1 hc.2.1 hr (fun t ht hW => ⟨⟨rfl, by rw [ht]; exact hw.1⟩, hw.2.2.F ht⟩) hw.2.2.2.2 hdg hc.2.2.2.2.2.2.2.2.2
theorem g_fret {ws1 : va_W} {v : UInt32} {o : Option Value} (hQ : Q = g_Q below D A s args ws1 o) (hc : g_C p s m args meth c cc own Ts nL D E T A) (hw : g_W D A s ws H locs) (hr : meth.sig.returnType = some .float) (hv : o = some (.float v)) (hws : ws = ws1) (hdg : decode cc pc = .ok (.freturn, 1)) : W p l e R s m args below meth c H locs 0 0 Q (F0 m pc ls [.float v]) := by
  subst hQ
  subst hv
  subst hws
  exact W.fret hc.1 hc.2.1 hr (fun t ht hW => ⟨⟨rfl, by rw [ht]; exact hw.1⟩, hw.2.2.F ht⟩) hw.2.2.2.2 hdg hc.2.2.2.2.2.2.2.2.2
theorem g_vret {ws1 : va_W} {o : Option Value} (hQ : Q = g_Q below D A s args ws1 o) (hc : g_C p s m args meth c cc own Ts nL D E T A) (hw : g_W D A s ws H locs) (hr : meth.sig.returnType = none) (hv : o = none) (hws : ws = ws1) (hdg : decode cc pc = .ok (.return_, 1)) : W p l e R s m args below meth c H locs 0 0 Q (F0 m pc ls []) := by
  subst hQ
  subst hv
  subst hws
  exact W.vret hc.1 hc.2.1 hr (fun t ht hW => ⟨⟨rfl, by rw [ht]; exact hw.1⟩, hw.2.2.F ht⟩) hw.2.2.2.2 hdg hc.2.2.2.2.2.2.2.2.2
theorem g_zret {ws1 : va_W} {v : Int32} {o : Option Value} (hQ : Q = g_Q below D A s args ws1 o) (hc : g_C p s m args meth c cc own Ts nL D E T A) (hw : g_W D A s ws H locs) (hr : meth.sig.returnType = some .boolean) (hv : o = some (.int v)) (hn : narrow .boolean (.int v) = .int v) (hws : ws = ws1) (hdg : decode cc pc = .ok (.ireturn, 1)) : W p l e R s m args below meth c H locs 0 0 Q (F0 m pc ls [.int v]) := by
  subst hQ
  subst hv
  subst hws
  exact W.zret hc.1 hc.2.1 hr hn (fun t ht hW => ⟨⟨rfl, by rw [ht]; exact hw.1⟩, hw.2.2.F ht⟩) hw.2.2.2.2 hdg hc.2.2.2.2.2.2.2.2.2
end GRows
