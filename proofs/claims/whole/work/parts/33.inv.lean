/-! MY ROWS 10: the relation of class and reference between calls; a step of both -/
section GInv
theorem lost_eq {B : Nat} {S : TS} {nw nf : Nat} {fl fl' x w : Nat → Int32} (hok : OkS B S) (h : agW nw (sW S) w) (hf : agW nf fl fl') (g : Nat → Int32) (v : Nat) : loR nw nf fl' x (wW S w) v 16 = loN (15 - sD S) v (wgP nw nf fl x S (15 - sD S) g 16) 16 := by
  have hal : 15 - sD S < 16 := by omega
  have e1 := sum_rng (15 - sD S) (fun a => wgP nw nf fl x S (15 - sD S) g 16 a = 20) (fun a => (10 - v) ^ pcn a * v ^ pcn (15 - sD S - a)) (loN (15 - sD S) v (wgP nw nf fl x S (15 - sD S) g 16)) rfl (fun a => rfl) 16
  have e2 := sum_rng (15 - sD S) (fun a => clR nw nf fl' x (dvS (wW S w) (sD S ||| a)) 20 = 0) (fun a => v ^ pcn a * (10 - v) ^ (pcn (15 - sD S) - pcn a)) (loR nw nf fl' x (wW S w) v) rfl (fun a => rfl) 16
  rw [e1, e2]
  have hr := subL_rev (15 - sD S) hal
  have e3 : smL (fun a => if clR nw nf fl' x (dvS (wW S w) (sD S ||| a)) 20 = 0 then v ^ pcn a * (10 - v) ^ (pcn (15 - sD S) - pcn a) else 0) (subL (15 - sD S)) = smL (fun b => if clR nw nf fl' x (dvS (wW S w) (sD S ||| (15 - sD S - b))) 20 = 0 then v ^ pcn (15 - sD S - b) * (10 - v) ^ (pcn (15 - sD S) - pcn (15 - sD S - b)) else 0) (subL (15 - sD S)) := by
    rw [← smL_map (fun a => if clR nw nf fl' x (dvS (wW S w) (sD S ||| a)) 20 = 0 then v ^ pcn a * (10 - v) ^ (pcn (15 - sD S) - pcn a) else 0) (fun b => 15 - sD S - b), hr, smL_rev]
  show smL _ (subL (15 - sD S)) = smL _ (subL (15 - sD S))
  rw [e3]
  refine smL_congr (fun a ha => ?_)
  have h1 := of_decide_eq_true (List.all_eq_true.mp (subL_ok (15 - sD S) hal) a ha)
  have h2 : (sD S ||| (15 - sD S - a)) = 15 - a := eq_of_beq (List.all_eq_true.mp (subL_or (sD S) hok.d) a ha)
  have h3 : wgP nw nf fl x S (15 - sD S) g 16 a = 20 - clR nw nf fl x (dvS S (15 - a)) 20 := by
    rw [wg_at g h1.2.1 h1.1]
    unfold wgV
    rw [cl_eq]
    rfl
  obtain ⟨q, hq, eq⟩ := cl_n (hok.lv h1.2.1) nw nf fl x 20
  rw [cl_eq] at eq
  have eq' : clR nw nf fl x (dvS S (15 - a)) 20 = nI q := eq
  have h4 : clR nw nf fl' x (dvS (wW S w) (15 - a)) 20 = nI q := by
    rw [show dvS (wW S w) (15 - a) = wW (dvS S (15 - a)) w from rfl, cl_w (S := dvS S (15 - a)) h hf]
    exact eq'
  rw [h2, h4, h1.2.2.2.2]
  have h5 : (nI q = 0) ↔ (wgP nw nf fl x S (15 - sD S) g 16 a = 20) := by
    rw [h3, eq', show (20 : Int32) - nI q = nI (20 - q) from n_sub (a := 20) rfl rfl hq]
    constructor
    · intro z
      have : q = 0 := (nI_eq (by omega) (by decide)).mp z
      subst this
      rfl
    · intro z
      have : 20 - q = 20 := (nI_eq (by omega) (by decide)).mp z
      have : q = 0 := by omega
      subst this
      rfl
  by_cases z : nI q = 0
  · rw [if_pos z, if_pos (h5.mp z), Nat.mul_comm]
  · rw [if_neg z, if_neg (fun y => z (h5.mpr y))]
theorem wt_ag (tt : Nat → Nat) (g g' : Nat → Int32) : ∀ m, agW (cwN tt (6 + 7 * m)) (wtN tt g m) (wtN tt g' m)
  | 0 => by
    intro j hj
    rw [Nat.mul_zero, cw_6] at hj
    omega
  | m + 1 => by
    intro j hj
    rw [cw_7] at hj
    unfold wtN
    by_cases q : tt (6 + 7 * m) = 119
    · rw [if_pos q] at hj
      rw [if_pos q, if_pos q]
      unfold rtP
      by_cases z : cwN tt (6 + 7 * m) * 3 ≤ j ∧ j < cwN tt (6 + 7 * m) * 3 + 3
      · rw [if_pos z, if_pos z]
      · rw [if_neg z, if_neg z]
        exact wt_ag tt g g' m j (by omega)
    · rw [if_neg q] at hj
      rw [if_neg q, if_neg q]
      exact wt_ag tt g g' m j hj
theorem fl_ag (tt : Nat → Nat) (g g' : Nat → Int32) : ∀ m, agW (cfN tt (6 + 7 * m)) (flN tt g m) (flN tt g' m)
  | 0 => by
    intro j hj
    rw [Nat.mul_zero, cf_6] at hj
    omega
  | m + 1 => by
    intro j hj
    rw [cf_7] at hj
    unfold flN
    by_cases q : tt (6 + 7 * m) = 102
    · rw [if_pos q] at hj
      rw [if_pos q, if_pos q]
      unfold rtP
      by_cases z : cfN tt (6 + 7 * m) * 3 ≤ j ∧ j < cfN tt (6 + 7 * m) * 3 + 3
      · rw [if_pos z, if_pos z]
      · rw [if_neg z, if_neg z]
        exact fl_ag tt g g' m j (by omega)
    · rw [if_neg q] at hj
      rw [if_neg q, if_neg q]
      exact fl_ag tt g g' m j hj
-- ---- the relation
def iT (tt rtt : Nat → Nat) (len rlen : Nat) : Prop := tt = rtt ∧ len = rlen ∧ len ≤ 120 ∧ ∀ j, tt j < 256
def iN (nw rnw nf rnf : Nat) (fl rfl9 x : Nat → Int32) : Prop := nw = rnw ∧ nf = rnf ∧ nw ≤ 6 ∧ nf ≤ 6 ∧ agW nf fl rfl9 ∧ x = x3F 0 0 0
def iS (B nw : Nat) (S rS : TS) : Prop := OkS B S ∧ ∃ w, rS = wW S w ∧ agW nw (sW S) w
def pgP (n : Nat) (S : TS) (k : Nat) (bb : Nat → Int32) (bf : Nat → UInt32) : Prop := ∃ w, agW n (sW S) w ∧ (∀ j, j < 29 → bb (29 * k + j) = pgF (wW S w) j) ∧ (∀ j, j < 5 → bf (5 * k + j) = fl5 (wW S w) j)
def iH (B nw held d en : Nat) (HS : Nat → TS) (bb : Nat → Int32) (bf : Nat → UInt32) : Prop := held = d ∧ held ≤ 14 ∧ en < 14 ∧ (∀ k, k < 14 → OkS B (HS k)) ∧ ∀ k, k < held → pgP nw (HS ((en + 14 - held + k) % 14)) k bb bf
def iV (B nw : Nat) (sb kb : Nat → Int32) (V : Nat → TS) (kp : Nat → Int32) (kf : Nat → UInt32) : Prop := ∀ k, k < 2 → OkS B (V k) ∧ sb k = kb k ∧ (sb k = 0 ∨ sb k = 1) ∧ (sb k = 1 → pgP nw (V k) k kp kf)
def obP (O9 : Nat → Nat × Nat × Nat × Bool) : Prop := ∀ k, (O9 k).1 ≤ 9 ∧ (O9 k).2.1 ≤ 2 ∧ (O9 k).2.2.1 ≤ 99 ∧ ((O9 k).2.1 = 2 → (O9 k).2.2.1 < 4)
def iO (cn rcn : Nat) (O9 : Nat → Nat × Nat × Nat × Bool) (ga gb gc gd : Nat → Int32) : Prop := cn = rcn ∧ cn ≤ 6 ∧ obP O9 ∧ ga = (fun yy => nI (O9 yy).1) ∧ gb = (fun yy => nI (O9 yy).2.1) ∧ gc = (fun yy => nI (O9 yy).2.2.1) ∧ gd = (fun yy => b2i (O9 yy).2.2.2)
def Inv (B : Nat) (c : CS) (r : RS) : Prop := iT (c_tt c) (r_tt r) (c_len c) (r_len r) ∧ iN (c_nw c) (r_nw r) (c_nf c) (r_nf r) (c_fl c) (r_fl r) (c_x c) ∧ iS B (c_nw c) (c_S c) (r_S r) ∧ iH B (c_nw c) (c_held c) (r_d r) (c_en c) (c_HS c) (r_bb r) (r_bf r) ∧ iV B (c_nw c) (c_sb c) (r_kb r) (c_V c) (r_kp9 r) (r_kf9 r) ∧ iO (c_cn c) (r_cn r) (c_O9 c) (r_ga r) (r_gb r) (r_gc r) (r_gd r) ∧ c_sd c = r_sd r
theorem iS.up {B B' nw : Nat} {S rS : TS} (h : iS B nw S rS) (hb : B ≤ B') : iS B' nw S rS := ⟨h.1.up hb, h.2⟩
theorem iH.up {B B' nw held d en : Nat} {HS : Nat → TS} {bb : Nat → Int32} {bf : Nat → UInt32} (h : iH B nw held d en HS bb bf) (hb : B ≤ B') : iH B' nw held d en HS bb bf := ⟨h.1, h.2.1, h.2.2.1, fun k hk => (h.2.2.2.1 k hk).up hb, h.2.2.2.2⟩
theorem iV.up {B B' nw : Nat} {sb kb : Nat → Int32} {V : Nat → TS} {kp : Nat → Int32} {kf : Nat → UInt32} (h : iV B nw sb kb V kp kf) (hb : B ≤ B') : iV B' nw sb kb V kp kf := fun k hk => ⟨(h k hk).1.up hb, (h k hk).2⟩
theorem Inv.up {B B' : Nat} {c : CS} {r : RS} (h : Inv B c r) (hb : B ≤ B') : Inv B' c r := ⟨h.1, h.2.1, h.2.2.1.up hb, h.2.2.2.1.up hb, h.2.2.2.2.1.up hb, h.2.2.2.2.2⟩
-- ---- the book
theorem pg_note {n k held : Nat} {S V : TS} {bb : Nat → Int32} {bf : Nat → UInt32} (hk : k < min held 13) (h : pgP n S (if held = 14 then k + 1 else k) bb bf) : pgP n S k (noI held bb V) (noF held bf V) := by
  obtain ⟨w, h1, h2, h3⟩ := h
  refine ⟨w, h1, fun j hj => ?_, fun j hj => ?_⟩
  · unfold noI ovI
    rw [if_neg (by omega)]
    unfold noI0
    by_cases c : held = 14
    · rw [if_pos c]
      rw [if_pos c] at h2
      unfold cpI
      rw [if_pos (by omega), ← h2 j hj]
      show bb (29 * k + j + 29) = bb (29 * (k + 1) + j)
      congr 1
      omega
    · rw [if_neg c]
      rw [if_neg c] at h2
      exact h2 j hj
  · unfold noF ovF
    rw [if_neg (by omega)]
    unfold noF0
    by_cases c : held = 14
    · rw [if_pos c]
      rw [if_pos c] at h3
      unfold cpF
      rw [if_pos (by omega), ← h3 j hj]
      show bf (5 * k + j + 5) = bf (5 * (k + 1) + j)
      congr 1
      omega
    · rw [if_neg c]
      rw [if_neg c] at h3
      exact h3 j hj
theorem pg_last {n held : Nat} {S : TS} {w : Nat → Int32} {bb : Nat → Int32} {bf : Nat → UInt32} (h : agW n (sW S) w) : pgP n S (min held 13) (noI held bb (wW S w)) (noF held bf (wW S w)) := by
  refine ⟨w, h, fun j hj => ?_, fun j hj => ?_⟩
  · unfold noI ovI
    rw [if_pos (by omega), Nat.add_sub_cancel_left]
  · unfold noF ovF
    rw [if_pos (by omega), Nat.add_sub_cancel_left]
theorem iH.note {B nw held d en : Nat} {HS : Nat → TS} {bb : Nat → Int32} {bf : Nat → UInt32} {S rS : TS} (h : iH B nw held d en HS bb bf) (hs : iS B nw S rS) : iH B nw (min (held + 1) 14) (min d 13 + 1) ((en + 1) % 14) (hiU HS en S) (noI d bb rS) (noF d bf rS) := by
  obtain ⟨rfl, hl, he, hO, hb⟩ := h
  obtain ⟨hS, w, rfl, ha⟩ := hs
  refine ⟨by omega, by omega, Nat.mod_lt _ (by decide), fun k hk => ?_, fun k hk => ?_⟩
  · unfold hiU
    split
    · exact hS
    · exact hO k hk
  · by_cases c : k = min held 13
    · subst c
      rw [show ((en + 1) % 14 + 14 - min (held + 1) 14 + min held 13) % 14 = en by omega, show hiU HS en S en = S from if_pos rfl]
      exact pg_last ha
    · have hk2 : k < min held 13 := by omega
      by_cases f : held = 14
      · subst f
        have e : ((en + 1) % 14 + 14 - min (14 + 1) 14 + k) % 14 = (en + 14 - 14 + (k + 1)) % 14 := by omega
        rw [e, show hiU HS en S ((en + 14 - 14 + (k + 1)) % 14) = HS ((en + 14 - 14 + (k + 1)) % 14) from if_neg (by omega)]
        exact pg_note hk2 (by rw [if_pos rfl]; exact hb (k + 1) (by omega))
      · have e : ((en + 1) % 14 + 14 - min (held + 1) 14 + k) % 14 = (en + 14 - held + k) % 14 := by omega
        rw [e, show hiU HS en S ((en + 14 - held + k) % 14) = HS ((en + 14 - held + k) % 14) from if_neg (by omega)]
        exact pg_note hk2 (by rw [if_neg f]; exact hb k (by omega))
theorem iH.none {B nw nw' held d en : Nat} {HS : Nat → TS} {bb : Nat → Int32} {bf : Nat → UInt32} (h : iH B nw held d en HS bb bf) : iH B nw' 0 0 en HS bb bf := ⟨rfl, by omega, h.2.2.1, h.2.2.2.1, fun k hk => absurd hk (by omega)⟩
theorem iH.undo {B nw e9 en : Nat} {HS : Nat → TS} {bb : Nat → Int32} {bf : Nat → UInt32} (h : iH B nw (e9 + 1) (e9 + 1) en HS bb bf) : iH B nw e9 e9 ((en + 13) % 14) HS bb bf := by
  obtain ⟨-, hl, he, hO, hb⟩ := h
  refine ⟨rfl, by omega, Nat.mod_lt _ (by decide), hO, fun k hk => ?_⟩
  rw [show ((en + 13) % 14 + 14 - e9 + k) % 14 = (en + 14 - (e9 + 1) + k) % 14 by omega]
  exact hb k (by omega)
-- ---- a slot
theorem pg_slot {n k i : Nat} {S : TS} {kp f : Nat → Int32} {kf g : Nat → UInt32} (hk : k ≠ i) (h : pgP n S k kp kf) : pgP n S k (ovI kp (29 * i) f 29) (ovF kf (5 * i) g 5) := by
  obtain ⟨w, h1, h2, h3⟩ := h
  refine ⟨w, h1, fun j hj => ?_, fun j hj => ?_⟩
  · unfold ovI
    rw [if_neg (by omega)]
    exact h2 j hj
  · unfold ovF
    rw [if_neg (by omega)]
    exact h3 j hj
theorem pg_slot0 {n i : Nat} {S : TS} {w : Nat → Int32} {kp : Nat → Int32} {kf : Nat → UInt32} (h : agW n (sW S) w) : pgP n S i (ovI kp (29 * i) (pgF (wW S w)) 29) (ovF kf (5 * i) (fl5 (wW S w)) 5) := by
  refine ⟨w, h, fun j hj => ?_, fun j hj => ?_⟩
  · unfold ovI
    rw [if_pos (by omega), Nat.add_sub_cancel_left]
  · unfold ovF
    rw [if_pos (by omega), Nat.add_sub_cancel_left]
theorem iV.keep {B nw : Nat} {sb kb : Nat → Int32} {V : Nat → TS} {kp : Nat → Int32} {kf : Nat → UInt32} {S rS : TS} (i : Nat) (h : iV B nw sb kb V kp kf) (hs : iS B nw S rS) : iV B nw (upd sb i 1) (upd kb i 1) (fun j => if j = i then S else V j) (ovI kp (29 * i) (pgF rS) 29) (ovF kf (5 * i) (fl5 rS) 5) := by
  obtain ⟨hS, w, rfl, ha⟩ := hs
  intro k hk
  obtain ⟨h1, h2, h3, h4⟩ := h k hk
  by_cases c : k = i
  · subst c
    refine ⟨?_, ?_, ?_, fun _ => ?_⟩
    · show OkS B (if k = k then S else V k)
      rw [if_pos rfl]
      exact hS
    · show (if k = k then (1 : Int32) else sb k) = (if k = k then 1 else kb k)
      rw [if_pos rfl, if_pos rfl]
    · exact Or.inr (if_pos rfl)
    · show pgP nw (if k = k then S else V k) k _ _
      rw [if_pos rfl]
      exact pg_slot0 ha
  · have e1 : upd sb i 1 k = sb k := if_neg c
    have e2 : upd kb i 1 k = kb k := if_neg c
    have e3 : (fun j => if j = i then S else V j) k = V k := if_neg c
    refine ⟨by rw [e3]; exact h1, by rw [e1, e2]; exact h2, by rw [e1]; exact h3, fun z => ?_⟩
    rw [e1] at z
    rw [e3]
    exact pg_slot c (h4 z)
theorem iV.none {B nw nw' : Nat} {sb kb : Nat → Int32} {V : Nat → TS} {kp : Nat → Int32} {kf : Nat → UInt32} (h : iV B nw sb kb V kp kf) : iV B nw' (cpI (fun _ => 0) sb 2) (cpI (fun _ => 0) kb 2) V kp kf := by
  intro k hk
  have e1 : cpI (fun _ => (0 : Int32)) sb 2 k = 0 := if_pos hk
  have e2 : cpI (fun _ => (0 : Int32)) kb 2 k = 0 := if_pos hk
  refine ⟨(h k hk).1, by rw [e1, e2], Or.inl e1, fun z => ?_⟩
  rw [e1] at z
  exact absurd z (by decide)
-- ---- a step of both
def okV : Bool → Value → Prop
  | true, o => ∃ v : Int64, o = .long v
  | false, o => ∃ v : Int32, o = .int v
def gStp (lg : Bool) (l : Launch) (D : va_G) (E : Nat → ClassId) (T : Nat → Nat) (a : Nat → Nat) (f : Nat → Nat → Nat) (b : Nat → Nat) (yC : MethodName) (wC : List Cond) (avC : List Value) (yR : MethodName) (wR : List Cond) (avR : List Value) (B : Nat) (c : CS) (r : RS) : Prop := ∃ (o : Value) (PC : CS → Prop) (PR : RS → Prop) (f1 l1 f2 l2 : Nat), (f1 ≤ 11 ∧ l1 ≤ 400 ∧ f2 ≤ 11 ∧ l2 ≤ 400) ∧ g_ME l D E T yC wC f1 l1 (.ref (a 0) :: avC) (CW E a f c) (fun u : {z : CS // PC z} => CW E a f u.1) (some o) ∧ g_ME l D E T yR wR f2 l2 (.ref (b 0) :: avR) (RW E b r) (fun u : {z : RS // PR z} => RW E b u.1) (some o) ∧ (∀ c' r', PC c' → PR r' → Inv B c' r') ∧ okV lg o
theorem g_ME.map {U V : Type} {l : Launch} {D : va_G} {E : Nat → ClassId} {T : Nat → Nat} {y : MethodName} {wy : List Cond} {fr lo : Nat} {av : List Value} {ws : va_W} {w1 : U → va_W} {w2 : V → va_W} {o : Option Value} (g : U → V) (hg : ∀ u, w1 u = w2 (g u)) (h : g_ME l D E T y wy fr lo av ws w1 o) : g_ME l D E T y wy fr lo av ws w2 o := by
  intro sz p e ha hc hk s m args below hf happ hP hK
  obtain ⟨n, oc, h1, h2, h3, ⟨⟨h4, u, h5⟩, h6⟩, h7⟩ := h sz p e ha hc hk s m args below hf happ hP hK
  exact ⟨n, oc, h1, h2, h3, ⟨⟨h4, g u, by rw [← hg u]; exact h5⟩, h6⟩, h7⟩
variable {l : Launch} {D : va_G} {E : Nat → ClassId} {T : Nat → Nat} {a : Nat → Nat} {f : Nat → Nat → Nat} {b : Nat → Nat} {yC yR : MethodName} {wC wR : List Cond} {avC avR : List Value} {B : Nat} {c c1 : CS} {r r1 : RS} {f1 l1 f2 l2 : Nat} {o o' : Value} {lg : Bool}
theorem gStp.mm (hC : g_M l D E T yC wC f1 l1 (.ref (a 0) :: avC) (CW E a f c) (CW E a f c1) (some o)) (hR : g_M l D E T yR wR f2 l2 (.ref (b 0) :: avR) (RW E b r) (RW E b r1) (some o')) (he : o' = o) (hi : Inv B c1 r1) (hb : f1 ≤ 11 ∧ l1 ≤ 400 ∧ f2 ≤ 11 ∧ l2 ≤ 400 := by decide) (ho : okV lg o := by exact ⟨_, rfl⟩) : gStp lg l D E T a f b yC wC avC yR wR avR B c r := by
  subst he
  exact ⟨_, (· = c1), (· = r1), f1, l1, f2, l2, hb, g_M.ex (w1 := fun u : {z : CS // z = c1} => CW E a f u.1) ⟨c1, rfl⟩ hC, g_M.ex (w1 := fun u : {z : RS // z = r1} => RW E b u.1) ⟨r1, rfl⟩ hR, fun c' r' h1 h2 => by subst h1 h2; exact hi, ho⟩
theorem gStp.ee {U V : Type} {F : U → CS} {G : V → RS} (hC : g_ME l D E T yC wC f1 l1 (.ref (a 0) :: avC) (CW E a f c) (fun u => CW E a f (F u)) (some o)) (hR : g_ME l D E T yR wR f2 l2 (.ref (b 0) :: avR) (RW E b r) (fun u => RW E b (G u)) (some o')) (he : o' = o) (hi : ∀ u v, Inv B (F u) (G v)) (hb : f1 ≤ 11 ∧ l1 ≤ 400 ∧ f2 ≤ 11 ∧ l2 ≤ 400 := by decide) (ho : okV lg o := by exact ⟨_, rfl⟩) : gStp lg l D E T a f b yC wC avC yR wR avR B c r := by
  subst he
  exact ⟨_, (fun z => ∃ u, z = F u), (fun z => ∃ u, z = G u), f1, l1, f2, l2, hb, g_ME.map (w2 := fun u : {z : CS // ∃ u, z = F u} => CW E a f u.1) (fun u => ⟨F u, u, rfl⟩) (fun _ => rfl) hC, g_ME.map (w2 := fun u : {z : RS // ∃ u, z = G u} => RW E b u.1) (fun u => ⟨G u, u, rfl⟩) (fun _ => rfl) hR, fun c' r' h1 h2 => by obtain ⟨u, rfl⟩ := h1; obtain ⟨v, rfl⟩ := h2; exact hi u v, ho⟩
end GInv
