/-! MY ROWS 1: the tables of the statics, the links of nest mates, contexts, worlds, contracts, calls -/
section GLib
abbrev g_Ty (E : Nat → ClassId) : List (ClassId × FieldType) := [(E 0, .int), (E 1, .float), (E 2, .char), (E 3, .boolean), (E 4, .object "SpinWheels$State"), (E 5, .object "SpinWheels$Sight")]
def g_tn : Nat → String := fun k => match k with
  | 0 => "AXES"
  | 1 => "STEPS"
  | 2 => "FIRST_SETTINGS"
  | 3 => "LEAST_SETTINGS"
  | _ => "MOST_SETTINGS"
def g_tz : Nat → Nat := fun k => match k with
  | 0 => 12
  | 1 => 9
  | _ => 4
def g_tl : Nat → List Int32 := fun k => match k with
  | 0 => [1, 1, 1, 1, -1, -1, -1, 1, -1, -1, -1, 1]
  | 1 => [0, -1, 1, -2, 2, -3, 3, -4, 4]
  | 2 => [50, 1, 1, 5]
  | 3 => [10, 0, 0, 1]
  | _ => [99, 9, 9, 9]
def g_tv (k j : Nat) : Int32 := (g_tl k).getD j 0
/-- the five static arrays, where they lie (T), unwritten -/
def g_St (T : Nat → Nat) (A : Nat → Prop) (U : State) (H : Heap) : Prop := ∀ k, k < 5 → va_Z "SpinWheels" (g_tn k) "[I" (.ref (T k)) A U H ∧ va_T .int (T k) (g_tz k) (fun j => .int (g_tv k j)) A U H
theorem g_St.kept {T : Nat → Nat} {A : Nat → Prop} {U : State} {H H1 : Heap} (h : g_St T A U H) (hq : ∀ a : Nat, a < H.size → ¬ A a → H1[a]? = H[a]?) : g_St T A U H1 := fun k hk => ⟨(h k hk).1.kept hq, (h k hk).2.kept hq⟩
theorem g_St.narrow {T : Nat → Nat} {A B : Nat → Prop} {U : State} {H : Heap} (h : g_St T A U H) (hAB : ∀ q, B q → A q) : g_St T B U H := fun k hk => ⟨(h k hk).1.narrow hAB, (h k hk).2.narrow hAB⟩
theorem g_St.moved {T : Nat → Nat} {A : Nat → Prop} {u U : State} {H : Heap} (hvm : u.vm.Alike U.vm) (h : g_St T A u H) : g_St T A U H := fun k hk => ⟨(h k hk).1.moved hvm, (h k hk).2.moved hvm⟩
def g_isN : Cond → Bool := fun w => match w with
  | .fieldLinkNest .. => true
  | .methodLinkNest .. => true
  | _ => false
def g_nW0 : List Cond := [Jvm.Cond.methodLinkNest "SpinWheels" (9 : Nat) ({ cls := "SpinWheels$Script", name := "<init>", desc := "()V" } : Jvm.MethodName) "SpinWheels", Jvm.Cond.fieldLinkNest "SpinWheels" (67 : Nat) "SpinWheels$Script" "length" "I" "SpinWheels", Jvm.Cond.methodLinkNest "SpinWheels" (18 : Nat) ({ cls := "SpinWheels$Plant", name := "<init>", desc := "()V" } : Jvm.MethodName) "SpinWheels", Jvm.Cond.fieldLinkNest "SpinWheels$Script" (48 : Nat) "SpinWheels$Plant" "fields" "[I" "SpinWheels", Jvm.Cond.fieldLinkNest "SpinWheels" (115 : Nat) "SpinWheels$Plant" "fields" "[I" "SpinWheels", Jvm.Cond.fieldLinkNest "SpinWheels$Script" (38 : Nat) "SpinWheels$Plant" "fieldCount" "I" "SpinWheels", Jvm.Cond.fieldLinkNest "SpinWheels" (109 : Nat) "SpinWheels$Plant" "fieldCount" "I" "SpinWheels", Jvm.Cond.fieldLinkNest "SpinWheels$Script" (33 : Nat) "SpinWheels$Plant" "wantCount" "I" "SpinWheels", Jvm.Cond.fieldLinkNest "SpinWheels" (85 : Nat) "SpinWheels$Plant" "wantCount" "I" "SpinWheels", Jvm.Cond.fieldLinkNest "SpinWheels" (184 : Nat) "SpinWheels$Plant" "aims" "[F" "SpinWheels", Jvm.Cond.fieldLinkNest "SpinWheels" (172 : Nat) "SpinWheels$Plant" "step" "I" "SpinWheels", Jvm.Cond.fieldLinkNest "SpinWheels" (175 : Nat) "SpinWheels$Plant" "near" "I" "SpinWheels", Jvm.Cond.fieldLinkNest "SpinWheels" (178 : Nat) "SpinWheels$Plant" "height" "F" "SpinWheels", Jvm.Cond.methodLinkNest "SpinWheels" (25 : Nat) ({ cls := "SpinWheels$State", name := "<init>", desc := "()V" } : Jvm.MethodName) "SpinWheels", Jvm.Cond.fieldLinkNest "SpinWheels$State" (22 : Nat) "SpinWheels" "FIRST_SETTINGS" "[I" "SpinWheels", Jvm.Cond.fieldLinkNest "SpinWheels$Sight" (41 : Nat) "SpinWheels$State" "speeds" "[F" "SpinWheels", Jvm.Cond.fieldLinkNest "SpinWheels" (92 : Nat) "SpinWheels$State" "speeds" "[F" "SpinWheels", Jvm.Cond.fieldLinkNest "SpinWheels$Plant" (108 : Nat) "SpinWheels$State" "speeds" "[F" "SpinWheels", Jvm.Cond.fieldLinkNest "SpinWheels$Script" (23 : Nat) "SpinWheels$State" "settings" "[I" "SpinWheels", Jvm.Cond.fieldLinkNest "SpinWheels$Plant" (115 : Nat) "SpinWheels$State" "settings" "[I" "SpinWheels"]
def g_nW1 : List Cond := [Jvm.Cond.fieldLinkNest "SpinWheels" (156 : Nat) "SpinWheels$State" "settings" "[I" "SpinWheels", Jvm.Cond.fieldLinkNest "SpinWheels$Script" (41 : Nat) "SpinWheels$State" "wants" "[I" "SpinWheels", Jvm.Cond.fieldLinkNest "SpinWheels" (112 : Nat) "SpinWheels$State" "wants" "[I" "SpinWheels", Jvm.Cond.fieldLinkNest "SpinWheels$Plant" (97 : Nat) "SpinWheels$State" "wants" "[I" "SpinWheels", Jvm.Cond.fieldLinkNest "SpinWheels$Plant" (78 : Nat) "SpinWheels$State" "deadMask" "I" "SpinWheels", Jvm.Cond.fieldLinkNest "SpinWheels" (235 : Nat) "SpinWheels$State" "deadMask" "I" "SpinWheels", Jvm.Cond.fieldLinkNest "SpinWheels$Plant" (32 : Nat) "SpinWheels$State" "mode" "I" "SpinWheels", Jvm.Cond.fieldLinkNest "SpinWheels$Sight" (29 : Nat) "SpinWheels$State" "mode" "I" "SpinWheels", Jvm.Cond.fieldLinkNest "SpinWheels" (134 : Nat) "SpinWheels$State" "mode" "I" "SpinWheels", Jvm.Cond.fieldLinkNest "SpinWheels$Plant" (45 : Nat) "SpinWheels$State" "spin" "F" "SpinWheels", Jvm.Cond.fieldLinkNest "SpinWheels" (118 : Nat) "SpinWheels$State" "spin" "F" "SpinWheels", Jvm.Cond.fieldLinkNest "SpinWheels$Sight" (34 : Nat) "SpinWheels$State" "missed" "I" "SpinWheels", Jvm.Cond.fieldLinkNest "SpinWheels$Plant" (122 : Nat) "SpinWheels$State" "missed" "I" "SpinWheels", Jvm.Cond.fieldLinkNest "SpinWheels" (190 : Nat) "SpinWheels$State" "missed" "I" "SpinWheels", Jvm.Cond.fieldLinkNest "SpinWheels$Plant" (132 : Nat) "SpinWheels$State" "crossings" "I" "SpinWheels", Jvm.Cond.fieldLinkNest "SpinWheels" (193 : Nat) "SpinWheels$State" "crossings" "I" "SpinWheels", Jvm.Cond.fieldLinkNest "SpinWheels$Plant" (50 : Nat) "SpinWheels$State" "safeTicks" "I" "SpinWheels", Jvm.Cond.fieldLinkNest "SpinWheels" (196 : Nat) "SpinWheels$State" "safeTicks" "I" "SpinWheels", Jvm.Cond.fieldLinkNest "SpinWheels$Plant" (125 : Nat) "SpinWheels$State" "run" "I" "SpinWheels", Jvm.Cond.fieldLinkNest "SpinWheels" (147 : Nat) "SpinWheels$State" "run" "I" "SpinWheels"]
def g_nW2 : List Cond := [Jvm.Cond.fieldLinkNest "SpinWheels$Plant" (65 : Nat) "SpinWheels$State" "clock" "I" "SpinWheels", Jvm.Cond.fieldLinkNest "SpinWheels" (275 : Nat) "SpinWheels$State" "clock" "I" "SpinWheels", Jvm.Cond.methodLinkNest "SpinWheels" (35 : Nat) ({ cls := "SpinWheels$History", name := "<init>", desc := "()V" } : Jvm.MethodName) "SpinWheels", Jvm.Cond.methodLinkNest "SpinWheels$History" (17 : Nat) ({ cls := "SpinWheels$State", name := "<init>", desc := "()V" } : Jvm.MethodName) "SpinWheels", Jvm.Cond.fieldLinkNest "SpinWheels" (163 : Nat) "SpinWheels$History" "held" "I" "SpinWheels", Jvm.Cond.methodLinkNest "SpinWheels" (58 : Nat) ({ cls := "SpinWheels$Sight", name := "<init>", desc := "()V" } : Jvm.MethodName) "SpinWheels", Jvm.Cond.fieldLinkNest "SpinWheels" (286 : Nat) "SpinWheels$Sight" "after" "I" "SpinWheels", Jvm.Cond.methodLinkNest "SpinWheels" (63 : Nat) ({ cls := "SpinWheels$Script", name := "append", desc := "(C)Z" } : Jvm.MethodName) "SpinWheels", Jvm.Cond.methodLinkNest "SpinWheels" (71 : Nat) ({ cls := "SpinWheels$Script", name := "faultAt", desc := "()I" } : Jvm.MethodName) "SpinWheels", Jvm.Cond.methodLinkNest "SpinWheels" (75 : Nat) ({ cls := "SpinWheels$State", name := "clear", desc := "()V" } : Jvm.MethodName) "SpinWheels", Jvm.Cond.methodLinkNest "SpinWheels" (78 : Nat) ({ cls := "SpinWheels$Script", name := "readInto", desc := "(LSpinWheels$State;LSpinWheels$Plant;)V" } : Jvm.MethodName) "SpinWheels", Jvm.Cond.methodLinkNest "SpinWheels" (82 : Nat) ({ cls := "SpinWheels$History", name := "forget", desc := "()V" } : Jvm.MethodName) "SpinWheels", Jvm.Cond.methodLinkNest "SpinWheels" (103 : Nat) ({ cls := "SpinWheels$State", name := "isDead", desc := "(I)Z" } : Jvm.MethodName) "SpinWheels", Jvm.Cond.methodLinkNest "SpinWheels" (122 : Nat) ({ cls := "SpinWheels$State", name := "momentumAlong", desc := "(I)F" } : Jvm.MethodName) "SpinWheels", Jvm.Cond.fieldLinkNest "SpinWheels$State" (70 : Nat) "SpinWheels" "AXES" "[I" "SpinWheels", Jvm.Cond.methodLinkNest "SpinWheels" (126 : Nat) ({ cls := "SpinWheels$History", name := "remember", desc := "(LSpinWheels$State;)V" } : Jvm.MethodName) "SpinWheels", Jvm.Cond.methodLinkNest "SpinWheels$History" (22 : Nat) ({ cls := "SpinWheels$State", name := "copyFrom", desc := "(LSpinWheels$State;)V" } : Jvm.MethodName) "SpinWheels", Jvm.Cond.methodLinkNest "SpinWheels" (130 : Nat) ({ cls := "SpinWheels$Plant", name := "passMany", desc := "(LSpinWheels$State;I)V" } : Jvm.MethodName) "SpinWheels", Jvm.Cond.methodLinkNest "SpinWheels$Plant" (59 : Nat) ({ cls := "SpinWheels$State", name := "deadCount", desc := "()I" } : Jvm.MethodName) "SpinWheels", Jvm.Cond.methodLinkNest "SpinWheels$Plant" (90 : Nat) ({ cls := "SpinWheels$State", name := "isDead", desc := "(I)Z" } : Jvm.MethodName) "SpinWheels"]
def g_nW3 : List Cond := [Jvm.Cond.fieldLinkNest "SpinWheels$Plant" (94 : Nat) "SpinWheels" "AXES" "[I" "SpinWheels", Jvm.Cond.fieldLinkNest "SpinWheels$Plant" (71 : Nat) "SpinWheels" "STEPS" "[I" "SpinWheels", Jvm.Cond.methodLinkNest "SpinWheels$Plant" (111 : Nat) ({ cls := "SpinWheels", name := "sizeOf", desc := "(F)F" } : Jvm.MethodName) "SpinWheels", Jvm.Cond.methodLinkNest "SpinWheels$Plant" (128 : Nat) ({ cls := "SpinWheels", name := "signOf", desc := "(F)I" } : Jvm.MethodName) "SpinWheels", Jvm.Cond.methodLinkNest "SpinWheels$Plant" (138 : Nat) ({ cls := "SpinWheels$State", name := "momentumAlong", desc := "(I)F" } : Jvm.MethodName) "SpinWheels", Jvm.Cond.methodLinkNest "SpinWheels" (137 : Nat) ({ cls := "SpinWheels$State", name := "strike", desc := "(I)V" } : Jvm.MethodName) "SpinWheels", Jvm.Cond.methodLinkNest "SpinWheels" (141 : Nat) ({ cls := "SpinWheels$State", name := "deadCount", desc := "()I" } : Jvm.MethodName) "SpinWheels", Jvm.Cond.methodLinkNest "SpinWheels" (144 : Nat) ({ cls := "SpinWheels$State", name := "revive", desc := "(I)V" } : Jvm.MethodName) "SpinWheels", Jvm.Cond.methodLinkNest "SpinWheels" (159 : Nat) ({ cls := "SpinWheels$History", name := "giveBack", desc := "(LSpinWheels$State;)Z" } : Jvm.MethodName) "SpinWheels", Jvm.Cond.methodLinkNest "SpinWheels" (166 : Nat) ({ cls := "SpinWheels$Plant", name := "bend", desc := "(LSpinWheels$State;)V" } : Jvm.MethodName) "SpinWheels", Jvm.Cond.methodLinkNest "SpinWheels" (169 : Nat) ({ cls := "SpinWheels$Plant", name := "steer", desc := "(LSpinWheels$State;)V" } : Jvm.MethodName) "SpinWheels", Jvm.Cond.methodLinkNest "SpinWheels" (181 : Nat) ({ cls := "SpinWheels$Plant", name := "misses", desc := "(LSpinWheels$State;)Z" } : Jvm.MethodName) "SpinWheels", Jvm.Cond.methodLinkNest "SpinWheels" (272 : Nat) ({ cls := "SpinWheels$State", name := "copyFrom", desc := "(LSpinWheels$State;)V" } : Jvm.MethodName) "SpinWheels", Jvm.Cond.methodLinkNest "SpinWheels" (199 : Nat) ({ cls := "SpinWheels$Plant", name := "pass", desc := "(LSpinWheels$State;)V" } : Jvm.MethodName) "SpinWheels", Jvm.Cond.methodLinkNest "SpinWheels" (206 : Nat) ({ cls := "SpinWheels$Plant", name := "countLost", desc := "(LSpinWheels$State;I)I" } : Jvm.MethodName) "SpinWheels", Jvm.Cond.methodLinkNest "SpinWheels$Plant" (38 : Nat) ({ cls := "SpinWheels$State", name := "lostTicks", desc := "()I" } : Jvm.MethodName) "SpinWheels", Jvm.Cond.methodLinkNest "SpinWheels" (221 : Nat) ({ cls := "SpinWheels$Sight", name := "greatest", desc := "(I)I" } : Jvm.MethodName) "SpinWheels", Jvm.Cond.methodLinkNest "SpinWheels" (228 : Nat) ({ cls := "SpinWheels$Sight", name := "fill", desc := "(IIII)V" } : Jvm.MethodName) "SpinWheels", Jvm.Cond.methodLinkNest "SpinWheels" (289 : Nat) ({ cls := "SpinWheels$Sight", name := "agreesWith", desc := "(LSpinWheels$State;)Z" } : Jvm.MethodName) "SpinWheels", Jvm.Cond.methodLinkNest "SpinWheels$Sight" (37 : Nat) ({ cls := "SpinWheels", name := "noWheel", desc := "(I)Z" } : Jvm.MethodName) "SpinWheels"]
def g_nW4 : List Cond := [Jvm.Cond.methodLinkNest "SpinWheels" (292 : Nat) ({ cls := "SpinWheels$State", name := "leaveAlive", desc := "(I)V" } : Jvm.MethodName) "SpinWheels", Jvm.Cond.methodLinkNest "SpinWheels" (261 : Nat) ({ cls := "SpinWheels$State", name := "lostTicks", desc := "()I" } : Jvm.MethodName) "SpinWheels", Jvm.Cond.methodLinkNest "SpinWheels" (268 : Nat) ({ cls := "SpinWheels$Plant", name := "disturb", desc := "(III)V" } : Jvm.MethodName) "SpinWheels"]
def g_nW : List Cond := g_nW0 ++ g_nW1 ++ g_nW2 ++ g_nW3 ++ g_nW4
def g_Ns (U : State) : Prop := ∀ w ∈ g_nW, va_Nw w U
theorem g_nW_all : g_nW.all g_isN = true := by decide +kernel
theorem g_isN_at {w : Cond} (h : w ∈ g_nW) : g_isN w = true := List.all_eq_true.mp g_nW_all w h
theorem g_isN_warm {w : Cond} (h : g_isN w = true) {s U : State} (hW : s.WarmedH U.vm) (hw : va_Nw w s) : va_Nw w U := by
  cases w
  case fieldLinkNest => exact va_Nw.warmF hW hw
  case methodLinkNest => exact va_Nw.warmM hW hw
  all_goals (exact absurd h Bool.false_ne_true)
theorem g_Ns.warm {s U : State} (hW : s.WarmedH U.vm) (h : g_Ns s) : g_Ns U := fun w hw => g_isN_warm (g_isN_at hw) hW (h w hw)
theorem g_isN_tab {w : Cond} (h : g_isN w = true) : w.onTables = true := by
  cases w
  case fieldLinkNest => rfl
  case methodLinkNest => rfl
  all_goals (exact absurd h Bool.false_ne_true)
theorem g_Ns.same {s U : State} (hv : s.vm = U.vm) (h : g_Ns s) : g_Ns U := fun w hw => va_Nw.same (g_isN_tab (g_isN_at hw)) hv (h w hw)
theorem g_Ns.use {s : State} (h : g_Ns s) (k : Nat) {w : Cond} (hk : g_nW[k]? = some w) (args : Array Value) : w.before args s = true := va_Nw.use (g_isN_tab (g_isN_at (List.mem_of_getElem? hk))) (h w (List.mem_of_getElem? hk))
/-- what stays the same over a method's whole run -/
def g_C (p : Program) (s : State) (m : MethodId) (args : Array Value) (meth : Method) (c : Code) (cc : ByteArray) (own : String) (Ts : List Cond) (nL : Nat) (D : va_G) (E : Nat → ClassId) (T : Nat → Nat) (A : Nat → Prop) : Prop :=
  p.tables.exec = Jvm.exec ∧ c.code = cc ∧ c.maxLocals = nL ∧ (∀ w ∈ Ts, w.before args s = true) ∧ s.vm.findClass own = some m.cls ∧ va_K D vwCl (g_Ty E) s ∧ g_St T A s s.heap ∧ g_Ns s ∧ (∀ q : Nat, s.heap.size ≤ q → A q) ∧ meth.locks = false
/-- the world of now -/
def g_W (D : va_G) (A : Nat → Prop) (s : State) (ws : va_W) (H : Heap) (locs : List Loc) : Prop := va_P D vwCl ws H ∧ va_D A ws ∧ va_S A s.heap H locs
def g_set (ws : va_W) : List Nat → va_W → va_W
  | i :: is, c :: cs => g_set (ws.set i c) is cs
  | _, _ => ws
theorem g_set_at : ∀ (is : List Nat) (cs ws : va_W), is.length = cs.length → ∀ (k : Nat) (q : Nat × va_E), (g_set ws is cs)[k]? = some q → (∃ j : Nat, is[j]? = some k ∧ cs[j]? = some q) ∨ (k ∉ is ∧ ws[k]? = some q)
  | [], [], ws, _, k, q, h => Or.inr ⟨by simp, h⟩
  | [], _ :: _, _, h, _, _, _ => by simp at h
  | _ :: _, [], _, h, _, _, _ => by simp at h
  | i :: is, c :: cs, ws, hl, k, q, h => by
    rcases g_set_at is cs (ws.set i c) (by simpa using hl) k q h with ⟨j, h1, h2⟩ | ⟨h1, h2⟩
    · exact Or.inl ⟨j + 1, by simpa using h1, by simpa using h2⟩
    · by_cases hk : k = i
      · subst hk
        rw [List.getElem?_set] at h2
        by_cases hz : k < ws.length
        · simp [hz] at h2
          exact Or.inl ⟨0, by simp, by simp [h2]⟩
        · simp [hz] at h2
      · rw [List.getElem?_set_ne (Ne.symm hk)] at h2
        exact Or.inr ⟨by simp [hk, h1], h2⟩
theorem g_set_fst {ws wc w1 : va_W} {is : List Nat} (hC : is.map (fun i => ws[i]?) = wc.map some) (hadr : w1.map (fun q => q.1) = wc.map (fun q => q.1)) {k : Nat} {q : Nat × va_E} (h : (g_set ws is w1)[k]? = some q) : ∃ q0 : Nat × va_E, ws[k]? = some q0 ∧ q0.1 = q.1 := by
  have hl : is.length = w1.length := by
    have h1 : is.length = wc.length := by simpa using congrArg List.length hC
    have h2 : w1.length = wc.length := by simpa using congrArg List.length hadr
    omega
  rcases g_set_at is w1 ws hl k q h with ⟨j, h1, h2⟩ | ⟨_, h2⟩
  · have h3 := congrArg (fun l => l[j]?) hC
    simp only [List.getElem?_map, h1, Option.map_some] at h3
    have h4 := congrArg (fun l => l[j]?) hadr
    simp only [List.getElem?_map, h2, Option.map_some] at h4
    cases hw : wc[j]? with
    | none => rw [hw] at h4; simp at h4
    | some q0 =>
      rw [hw] at h3 h4
      simp at h3 h4
      exact ⟨q0, h3, h4.symm⟩
  · exact ⟨q, h2, rfl⟩
theorem g_set_D {A : Nat → Prop} {ws wc w1 : va_W} {is : List Nat} (hD : va_D A ws) (hC : is.map (fun i => ws[i]?) = wc.map some) (hadr : w1.map (fun q => q.1) = wc.map (fun q => q.1)) : va_D A (g_set ws is w1) := by
  refine ⟨fun i j p q hp hq he => ?_, fun k q hq => ?_⟩
  · obtain ⟨p0, hp0, ep⟩ := g_set_fst hC hadr hp
    obtain ⟨q0, hq0, eq⟩ := g_set_fst hC hadr hq
    exact hD.1 i j p0 q0 hp0 hq0 (by rw [ep, eq, he])
  · obtain ⟨q0, hq0, eq⟩ := g_set_fst hC hadr hq
    rw [← eq]
    exact hD.2 k q0 hq0
theorem g_set_P {D : va_G} {cl : List vw_C} {A : Nat → Prop} {ws wc w1 : va_W} {is : List Nat} {H H1 : Heap} (hP : va_P D cl ws H) (hD : va_D A ws) (hC : is.map (fun i => ws[i]?) = wc.map some) (hadr : w1.map (fun q => q.1) = wc.map (fun q => q.1)) (hP1 : va_P D cl w1 H1) (hk : ∀ q : Nat, q < H.size → ¬ va_A wc H.size q → H1[q]? = H[q]?) : va_P D cl (g_set ws is w1) H1 := by
  have hl : is.length = w1.length := by
    have h1 : is.length = wc.length := by simpa using congrArg List.length hC
    have h2 : w1.length = wc.length := by simpa using congrArg List.length hadr
    omega
  intro k q hq
  rcases g_set_at is w1 ws hl k q hq with ⟨j, h1, h2⟩ | ⟨h1, h2⟩
  · exact hP1 j q h2
  · refine (hP k q h2).kept (hk q.1 (hP k q h2).lt ?_)
    rintro (⟨j, e, hj⟩ | hz)
    · have h3 := congrArg (fun l => l[j]?) hC
      simp only [List.getElem?_map, hj, Option.map_some] at h3
      cases hi : is[j]? with
      | none => rw [hi] at h3; simp at h3
      | some i =>
        rw [hi] at h3
        simp at h3
        have := hD.1 k i q _ h2 h3 rfl
        subst this
        exact h1 (List.mem_of_getElem? hi)
    · exact absurd (hP k q h2).lt (Nat.not_lt.mpr hz)
def g_Pc (D : va_G) (E : Nat → ClassId) (T : Nat → Nat) (av : List Value) (ws : va_W) (sz : Nat) : Array Value → State → Prop := fun v U => v = av.toArray ∧ U.heap.size = sz ∧ va_P D vwCl ws U.heap ∧ va_K D vwCl (g_Ty E) U ∧ va_D (fun _ => True) ws ∧ g_St T (va_A ws sz) U U.heap ∧ g_Ns U
def g_Qc (D : va_G) (ws ws1 : va_W) (sz : Nat) (o : Option Value) : Array Value → State → Outcome → State → Prop := fun _ st oc t => (oc = .returned o ∧ va_P D vwCl ws1 t.heap) ∧ va_F (va_A ws sz) st t
theorem g_blind (D : va_G) (E : Nat → ClassId) (T : Nat → Nat) (av : List Value) (ws : va_W) (sz : Nat) : FrameBlind (g_Pc D E T av ws sz) := by
  intro a U g mk q
  obtain ⟨q0, q1, qP, qK, qD, qS, qN⟩ := q
  exact ⟨q0, q1, qP, va_K.moved (u := U) (U := U.calling g mk a) (Vm.Alike.refl U.vm) qK, qD, g_St.moved (u := U) (U := U.calling g mk a) (Vm.Alike.refl U.vm) qS, g_Ns.same (s := U) (U := U.calling g mk a) rfl qN⟩
/-- A CONTRACT: from the world ws, with the arguments av, the method returns o and leaves the world ws1; no cell is new -/
def g_M (l : Launch) (D : va_G) (E : Nat → ClassId) (T : Nat → Nat) (y : MethodName) (wy : List Cond) (fr lo : Nat) (av : List Value) (ws ws1 : va_W) (o : Option Value) : Prop := ∀ sz : Nat, Met l y wy ({ frames := fr, cells := 0, slots := 0, locals := lo }) (g_Pc D E T av ws sz) (g_Qc D ws ws1 sz o) 0 0 (va_A ws sz)
abbrev g_R (fr lo : Nat) : Room := { frames := fr, cells := 0, slots := 0, locals := lo }
def g_Q (below : List Frame) (D : va_G) (A : Nat → Prop) (s : State) (args : Array Value) (ws1 : va_W) (o : Option Value) : State → Prop := MQ below (fun _ st oc t => (oc = .returned o ∧ va_P D vwCl ws1 t.heap) ∧ va_F A st t) args s 0 0 A
theorem g_M.of {l : Launch} {D : va_G} {E : Nat → ClassId} {T : Nat → Nat} {y : MethodName} {wy wy' : List Cond} {fr lo : Nat} {av : List Value} {ws ws1 : va_W} {o : Option Value} {cc : ByteArray} {nL : Nat} {ret : Option FieldType} {own : String} {lv : List (Nat × Value)} (hy : plainName y.cls = true) (hw : wy = Cond.code y cc nL ret :: wy') (hcl : y.cls = own) (hlen : (lg_sl av).length ≤ nL) (hlv : lv_args 0 av = lv)
    (body : ∀ (p : Program) (e : Env) (R : Room) (s : State) (m : MethodId) (args : Array Value) (below : List Frame) (meth : Method) (c : Code) (A : Nat → Prop) (Q : State → Prop) (H : Heap) (locs : List Loc) (ls : Array Slot), R = g_R fr lo → Q = g_Q below D A s args ws1 o → g_C p s m args meth c cc own wy nL D E T A → meth.sig.returnType = ret → g_W D A s ws H locs → lv_has ls nL lv → W p l e R s m args below meth c H locs 0 0 Q (F0 m 0 ls [])) : g_M l D E T y wy fr lo av ws ws1 o := by
  intro sz
  refine Met.ofW (cc := cc) (maxL := nL) (ret := ret) hy hw ?_
  intro p e s m args below meth c s₁ B hml hv
  obtain ⟨rfl, hsz, hP, hK, hD0, hSt, hNs⟩ := hv
  subst hsz
  have hts := atoms_spec (ws := wy) B.pre
  have hown : s.vm.findClass own = some m.cls := by
    have := findClass_of_methodNamed B.named
    rw [← hcl]
    exact this
  have hD := hD0.self (sz := s.heap.size)
  have hl := lv_entry av (n := nL) hlen
  rw [hlv] at hl
  rw [lg_entry_eq]
  exact body p e _ s m _ below meth c (va_A ws s.heap.size) _ _ _ _ rfl rfl ⟨B.exec, B.bytes, hml, hts, hown, hK, hSt, hNs, fun q h => Or.inr h, B.notSynchronized⟩ B.returns ⟨hP, hD, va_S.rf⟩ hl
end GLib
