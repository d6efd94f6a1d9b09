section P19k
def fcN : Nat → Nat
  | 0 => 1
  | n + 1 => fcN n * (n + 1)
theorem fac_n : ∀ n, facF n = nI (fcN n)
  | 0 => rfl
  | n + 1 => n_mul (fac_n n) rfl
theorem fcN_pos : ∀ n, 0 < fcN n
  | 0 => by decide
  | n + 1 => Nat.mul_pos (fcN_pos n) (Nat.succ_pos n)
theorem fcN_le : ∀ n, n ≤ 4 → fcN n ≤ 24 := by
  intro n h
  rcases (show n = 0 ∨ n = 1 ∨ n = 2 ∨ n = 3 ∨ n = 4 by omega) with rfl | rfl | rfl | rfl | rfl <;> decide
/-- the sum over all orders -/
def shN (al size w : Nat) (V : Nat → Int32) : Nat → Int32
  | 0 => 0
  | a + 1 => if a &&& al = a ∧ a.testBit w = false then shN al size w V a + facF (pcn a) * facF (size - 1 - pcn a) * (V (dIn a w) - V a) else shN al size w V a
def shQ (d i a : Nat) : Bool := d.testBit i || !(a &&& (15 - d) == a) || a.testBit i || (decide (pcn a + 1 ≤ pcn (15 - d)) && decide (dIn a i < 16) && (dIn a i &&& (15 - d) == dIn a i))
theorem sh_q : ∀ d, d < 16 → ∀ i, i < 4 → ∀ a, a < 16 → shQ d i a = true := by decide +kernel
theorem sh_sub (d : Nat) (hd : d < 16) (i : Nat) (hi : i < 4) (a : Nat) (ha : a < 16) (h : d.testBit i = false ∧ a &&& (15 - d) = a ∧ a.testBit i = false) : pcn a + 1 ≤ pcn (15 - d) ∧ dIn a i < 16 ∧ dIn a i &&& (15 - d) = dIn a i := by
  have q := sh_q d hd i hi a ha
  unfold shQ at q
  rw [h.1, h.2.1, h.2.2, beq_self_eq_true] at q
  have q2 : (decide (pcn a + 1 ≤ pcn (15 - d)) && decide (dIn a i < 16) && (dIn a i &&& (15 - d) == dIn a i)) = true := q
  rw [Bool.and_eq_true, Bool.and_eq_true] at q2
  exact ⟨of_decide_eq_true q2.1.1, of_decide_eq_true q2.1.2, eq_of_beq q2.2⟩
theorem wg_at {nw nf : Nat} {fl x : Nat → Int32} {S : TS} {al a : Nat} (g : Nat → Int32) (h : a < 16) (hs : a &&& al = a) : wgP nw nf fl x S al g 16 a = wgV nw nf fl x S a := if_pos ⟨h, hs⟩
/-- a tick adds one or none to the lost ones -/
theorem tk_lost {B : Nat} {S : TS} (h : OkS B S) (nw nf : Nat) (fl x : Nat → Int32) : sI (tkF nw nf fl x S) + sA (tkF nw nf fl x S) = sI S + sA S ∨ sI (tkF nw nf fl x S) + sA (tkF nw nf fl x S) = sI S + sA S + 1 := by
  have e : sI (tkF nw nf fl x S) = sI (t1F nw x S) ∧ sA (tkF nw nf fl x S) = sA (t1F nw x S) := by
    unfold tkF t3F t2F
    split <;> exact ⟨rfl, rfl⟩
  rw [e.1, e.2]
  unfold t1F
  split
  · right
    show sI S + (sA S + 1) = _
    exact (Int32.add_assoc _ _ _).symm
  · show drI (bS nw x S) (sI S) + sA S = _ ∨ drI (bS nw x S) (sI S) + sA S = _
    unfold drI
    split
    · right
      rw [Int32.add_assoc, Int32.add_comm 1, ← Int32.add_assoc]
    · left; rfl
theorem tn_lost {B : Nat} {S : TS} (h : OkS B S) (nw nf : Nat) (fl x : Nat → Int32) : ∀ n, ∃ q, q ≤ n ∧ sI (tkN nw nf fl x S n) + sA (tkN nw nf fl x S n) = sI S + sA S + nI q
  | 0 => ⟨0, Nat.le_refl _, (Int32.add_zero _).symm⟩
  | n + 1 => by
    rcases tn_lost h nw nf fl x n with ⟨q, hq, e⟩
    rcases tk_lost (h.tn nw nf fl x n) nw nf fl x with k | k
    · exact ⟨q, by omega, k.trans e⟩
    · refine ⟨q + 1, by omega, k.trans ?_⟩
      rw [e, Int32.add_assoc]
      exact congrArg (fun z => sI S + sA S + z) (nI_add q 1)
theorem cl_n {B : Nat} {S : TS} (h : OkS B S) (nw nf : Nat) (fl x : Nat → Int32) (n : Nat) : ∃ q, q ≤ n ∧ clN nw nf fl x S n = nI q := by
  unfold clN
  split
  · exact ⟨n, Nat.le_refl _, rfl⟩
  · rcases tn_lost h nw nf fl x n with ⟨q, hq, e⟩
    refine ⟨q, hq, ?_⟩
    rw [e, Int32.add_comm (sI S + sA S), Int32.add_sub_cancel]
theorem wgV_n {B : Nat} {S : TS} (h : OkS B S) (nw nf : Nat) (fl x : Nat → Int32) (a : Nat) (ha : a < 16) : ∃ q, q ≤ 20 ∧ wgV nw nf fl x S a = nI q := by
  rcases cl_n (h.lv ha) nw nf fl x 20 with ⟨q, hq, e⟩
  refine ⟨20 - q, by omega, ?_⟩
  unfold wgV
  rw [e]
  exact n_sub (a := 20) rfl rfl hq
theorem nI_ofInt (n : Nat) : nI n = Int32.ofInt n := by
  show Int32.ofNat n = _
  exact (Int32.ofInt_eq_ofNat ..).symm
theorem sh_z {V : Nat → Int32} (hV : ∀ a, a < 16 → ∃ q, q ≤ 20 ∧ V a = nI q) (al size w : Nat) (hw9 : w < 4) (hs : size ≤ 4) : ∀ a, a ≤ 16 → ∃ z : Int, z.natAbs ≤ a * 11520 ∧ shN al size w V a = Int32.ofInt z
  | 0, _ => ⟨0, by simp, rfl⟩
  | a + 1, ha => by
    rcases sh_z hV al size w hw9 hs a (by omega) with ⟨z, hz, e⟩
    by_cases c : a &&& al = a ∧ a.testBit w = false
    · rcases hV a (by omega) with ⟨q, hq, e1⟩
      rcases hV (dIn a w) (dIn_lt a (by omega) w hw9) with ⟨r, hr9, e2⟩
      have f1 := fcN_le (pcn a) (pcn_4 a)
      have f2 := fcN_le (size - 1 - pcn a) (by omega)
      have f3 : fcN (pcn a) * fcN (size - 1 - pcn a) ≤ 576 := Nat.mul_le_mul f1 f2
      refine ⟨z + (fcN (pcn a) * fcN (size - 1 - pcn a) : Nat) * ((r : Int) - q), ?_, ?_⟩
      · have b : (((fcN (pcn a) * fcN (size - 1 - pcn a) : Nat) : Int) * ((r : Int) - q)).natAbs ≤ 576 * 20 := by
          rw [Int.natAbs_mul]
          exact Nat.mul_le_mul (by rw [Int.natAbs_natCast]; exact f3) (by omega)
        omega
      · rw [shN, if_pos c, e, e1, e2, fac_n, fac_n, Int32.ofInt_add, Int32.ofInt_mul, Int32.ofInt_sub, ← nI_ofInt, ← nI_ofInt, ← nI_ofInt, n_mul rfl rfl]
    · exact ⟨z, Nat.le_trans hz (Nat.mul_le_mul_right _ (Nat.le_succ a)), (if_neg c).trans e⟩
theorem abs_ofInt {z : Int} (h : z.natAbs < 2 ^ 31) : (if 0 ≤ Int32.ofInt z then Int32.ofInt z else 0 - Int32.ofInt z) = nI (Int32.ofInt z).toInt.natAbs ∧ (Int32.ofInt z).toInt.natAbs < 2 ^ 31 := by
  have e : (Int32.ofInt z).toInt = z := Int32.toInt_ofInt_of_le (by omega) (by omega)
  rw [e]
  refine ⟨?_, h⟩
  have k : (0 ≤ Int32.ofInt z) ↔ 0 ≤ z := by rw [Int32.le_iff_toInt_le, e]; rfl
  by_cases c : 0 ≤ z
  · rw [if_pos (k.mpr c), nI_ofInt, Int.natAbs_of_nonneg c]
  · rw [if_neg (fun q => c (k.mp q)), nI_ofInt, Int.ofNat_natAbs_of_nonpos (by omega), Int32.zero_sub, Int32.ofInt_neg]
theorem sh_abs {B : Nat} {S : TS} (h : OkS B S) (nw nf : Nat) (fl x : Nat → Int32) {al size : Nat} (hs : size ≤ 4) (w : Nat) (hw9 : w ≤ 3) : (if 0 ≤ shN al size w (wgV nw nf fl x S) 16 then shN al size w (wgV nw nf fl x S) 16 else 0 - shN al size w (wgV nw nf fl x S) 16) = nI (shN al size w (wgV nw nf fl x S) 16).toInt.natAbs ∧ (shN al size w (wgV nw nf fl x S) 16).toInt.natAbs < 2 ^ 31 := by
  rcases sh_z (wgV_n h nw nf fl x) al size w (by omega) hs 16 (Nat.le_refl _) with ⟨z, hz, e⟩
  rw [e]
  exact abs_ofInt (by omega)
theorem dX5_share_0 : decode cX5_share 0 = .ok (.iload_n 1, 1) := by decide +kernel
theorem dX5_share_1 : decode cX5_share 1 = .ok (.invokestatic 88, 3) := by decide +kernel
theorem dX5_share_4 : decode cX5_share 4 = .ok (.ifCond .eq 5, 3) := by decide +kernel
theorem dX5_share_7 : decode cX5_share 7 = .ok (.iconst (-1), 1) := by decide +kernel
theorem dX5_share_8 : decode cX5_share 8 = .ok (.ireturn, 1) := by decide +kernel
set_option maxRecDepth 20000 in
theorem ggX5_share_X5_noWheel : GoodIn wsX5_share wsX5_noWheel := goodIn_r _ [6, 7, 8, 5, 9] rfl (by decide +kernel)
set_option maxRecDepth 20000 in
theorem gX5_share_X5_noWheel : GoodIn wsX5_share (va_wsS RX5 88 yX5_noWheel wsX5_noWheel) := goodIn_app (goodIn_of _ (by decide +kernel)) ggX5_share_X5_noWheel
set_option maxRecDepth 100000 in
set_option maxHeartbeats 4000000 in
theorem m_X5_share_out {l : Launch} {D : va_G} {E : Nat → ClassId} {T : Nat → Nat} (ob : Nat) (z0 : Value) (z1 : Value) (z2 : Value) (z3 : Value) (z4 : Value) (z5 : Value) (z6 : Value) (z7 : Value) (z8 : Value) (z9 : Value) (z10 : Value) (v : Int32) (b : Int32) (ho : outB v 0 3 = true) : g_M l D E T yX5_share wsX5_share 2 42 [.ref ob, .int v, .int b] [(ob, .inr (5, [z0, z1, z2, z3, z4, z5, z6, z7, z8, z9, z10]))] [(ob, .inr (5, [z0, z1, z2, z3, z4, z5, z6, z7, z8, z9, z10]))] (some (.int (-1))) := by
  refine g_M.of (cc := cX5_share) (nL := 8) (ret := (some .int)) (own := RX5) (lv := [(0, .ref ob), (1, .int v), (2, .int b)]) (by decide) rfl rfl (Nat.le_of_ble_eq_true rfl) rfl ?_
  intro p e R s m args below meth c A Q H locs ls hR hQ hc hr hw hl
  have hx := hc.1
  have hb := hc.2.1
  have hts := hc.2.2.2.1
  have hown := hc.2.2.2.2.1
  refine lv_iload_n hx hb dX5_share_0 rfl (lv_at hl 1 rfl) ?_
  refine g_cS (As := [.int v]) (n := 1) (rest := []) (wc := []) (w1 := []) (bytes := cX5_noWheel) (maxL := 1) (ret := (some .boolean)) hc hw hl.1 (m_X5_noWheel (l := l) (D := D) (E := E) (T := T) v) gX5_share_X5_noWheel rfl (by decide +kernel) (by rw [hR]; exact ⟨Nat.le_of_ble_eq_true rfl, Nat.le_of_ble_eq_true rfl⟩) [] (by decide) rfl [] rfl rfl rfl rfl (Nat.le_of_ble_eq_true rfl) dX5_share_1 ⟨Nat.zero_le _, Nat.zero_le _⟩ (fun H locs hw => ?_)
  have hw : g_W D A s [(ob, .inr (5, [z0, z1, z2, z3, z4, z5, z6, z7, z8, z9, z10]))] H locs := hw
  refine W.eq (congrArg (fun z => F0 m 4 ls (.int z :: [])) (show (b2i (outB v 0 3) : Int32) = 1 from (congrArg b2i ho))) ?_
  refine lv_if_eq (tgt := 9) hx hb dX5_share_4 (by decide) (fun c_4 => absurd c_4 (by decide)) (fun c_4 => ?_)
  refine lv_iconst (v := (-1)) hx hb dX5_share_7 (by decide) ?_
  exact g_iret hQ hc hw hr rfl rfl dX5_share_8

theorem dX5_share_9 : decode cX5_share 9 = .ok (.aload_n 0, 1) := by decide +kernel
theorem dX5_share_10 : decode cX5_share 10 = .ok (.getfield 26, 3) := by decide +kernel
theorem dX5_share_13 : decode cX5_share 13 = .ok (.iload_n 1, 1) := by decide +kernel
theorem dX5_share_14 : decode cX5_share 14 = .ok (.invokevirtual 103, 3) := by decide +kernel
theorem dX5_share_17 : decode cX5_share 17 = .ok (.ifCond .eq 6, 3) := by decide +kernel
theorem dX5_share_20 : decode cX5_share 20 = .ok (.bipush (-3), 2) := by decide +kernel
theorem dX5_share_22 : decode cX5_share 22 = .ok (.ireturn, 1) := by decide +kernel
set_option maxRecDepth 20000 in
theorem ggX5_share_X4_isDead : GoodIn wsX5_share wsX4_isDead := goodIn_r _ [13, 14, 152, 153, 154, 155, 156, 157, 158, 159, 160, 161, 162] rfl (by decide +kernel)
theorem inX5_share_X5 : ∀ w ∈ u_ws RX5 TX5 11, w ∈ wsX5_share := fun w h => List.mem_cons_of_mem _ (List.mem_append_left _ (List.mem_append_left _ (List.mem_append_right _ h)))
set_option maxRecDepth 100000 in
set_option maxHeartbeats 4000000 in
theorem m_X5_share_no {l : Launch} {D : va_G} {E : Nat → ClassId} {T : Nat → Nat} (ob : Nat) (h : Nat) (i : Nat) (d : Nat) (z0 : Value) (z1 : Value) (z3 : Value) (z4 : Value) (z5 : Value) (z6 : Value) (z7 : Value) (z8 : Value) (z9 : Value) (z10 : Value) (v0 : Value) (v1 : Value) (v2 : Value) (v4 : Value) (v5 : Value) (v6 : Value) (v7 : Value) (v8 : Value) (v9 : Value) (v10 : Value) (b : Int32) (hi9 : i ≤ 3) (hd : d < 16) (hal : d.testBit i = true) : g_M l D E T yX5_share wsX5_share 2 42 [.ref ob, .int (nI i), .int b] [(ob, .inr (5, [z0, z1, .ref h, z3, z4, z5, z6, z7, z8, z9, z10])), (h, .inr (4, [v0, v1, v2, .int (nI d), v4, v5, v6, v7, v8, v9, v10]))] [(ob, .inr (5, [z0, z1, .ref h, z3, z4, z5, z6, z7, z8, z9, z10])), (h, .inr (4, [v0, v1, v2, .int (nI d), v4, v5, v6, v7, v8, v9, v10]))] (some (.int (-3))) := by
  refine g_M.of (cc := cX5_share) (nL := 8) (ret := (some .int)) (own := RX5) (lv := [(0, .ref ob), (1, .int (nI i)), (2, .int b)]) (by decide) rfl rfl (Nat.le_of_ble_eq_true rfl) rfl ?_
  intro p e R s m args below meth c A Q H locs ls hR hQ hc hr hw hl
  have hx := hc.1
  have hb := hc.2.1
  have hts := hc.2.2.2.1
  have hown := hc.2.2.2.2.1
  refine lv_iload_n hx hb dX5_share_0 rfl (lv_at hl 1 rfl) ?_
  refine g_cS (As := [.int (nI i)]) (n := 1) (rest := []) (wc := []) (w1 := []) (bytes := cX5_noWheel) (maxL := 1) (ret := (some .boolean)) hc hw hl.1 (m_X5_noWheel (l := l) (D := D) (E := E) (T := T) (nI i)) gX5_share_X5_noWheel rfl (by decide +kernel) (by rw [hR]; exact ⟨Nat.le_of_ble_eq_true rfl, Nat.le_of_ble_eq_true rfl⟩) [] (by decide) rfl [] rfl rfl rfl rfl (Nat.le_of_ble_eq_true rfl) dX5_share_1 ⟨Nat.zero_le _, Nat.zero_le _⟩ (fun H locs hw => ?_)
  have hw : g_W D A s [(ob, .inr (5, [z0, z1, .ref h, z3, z4, z5, z6, z7, z8, z9, z10])), (h, .inr (4, [v0, v1, v2, .int (nI d), v4, v5, v6, v7, v8, v9, v10]))] H locs := hw
  refine W.eq (congrArg (fun z => F0 m 4 ls (.int z :: [])) (show (b2i (outB (nI i) 0 3) : Int32) = 0 from (congrArg b2i (out_nf (n := i) (a := 0) (b := 3) (by omega) hi9 (by decide))))) ?_
  refine lv_if_eq (tgt := 9) hx hb dX5_share_4 (by decide) (fun c_4 => ?_) (fun c_4 => absurd c_4 (by decide))
  refine lv_aload_n hx hb dX5_share_9 rfl (lv_at hl 0 rfl) ?_
  refine g_get (TT := TX5) hc hw inX5_share_X5 0 2 1 rfl rfl (by decide) rfl rfl dX5_share_10 ?_
  refine lv_iload_n hx hb dX5_share_13 rfl (lv_at hl 1 rfl) ?_
  refine g_cVN (As := [.int (nI i)]) (n := 1) (rest := []) (wc := [(h, .inr (4, [v0, v1, v2, .int (nI d), v4, v5, v6, v7, v8, v9, v10]))]) (w1 := [(h, .inr (4, [v0, v1, v2, .int (nI d), v4, v5, v6, v7, v8, v9, v10]))]) (bytes := cX4_isDead) (maxL := 2) (ret := (some .boolean)) hc hw hl.1 (m_X4_isDead (l := l) (D := D) (E := E) (T := T) h v0 v1 v2 v4 v5 v6 v7 v8 v9 v10 d i (by first | assumption | omega | decide) (by omega)) ggX5_share_X4_isDead rfl 52 rfl 11 10 12 rfl rfl rfl (by decide +kernel) (by rw [hR]; exact ⟨Nat.le_of_ble_eq_true rfl, Nat.le_of_ble_eq_true rfl⟩) [1] 1 4 rfl rfl (by decide) rfl [h] rfl rfl rfl rfl (Nat.le_of_ble_eq_true rfl) dX5_share_14 ⟨Nat.zero_le _, Nat.zero_le _⟩ (fun H locs hw => ?_)
  have hw : g_W D A s [(ob, .inr (5, [z0, z1, .ref h, z3, z4, z5, z6, z7, z8, z9, z10])), (h, .inr (4, [v0, v1, v2, .int (nI d), v4, v5, v6, v7, v8, v9, v10]))] H locs := hw
  refine W.eq (congrArg (fun z => F0 m 17 ls (.int z :: [])) (show (b2i (d.testBit i) : Int32) = 1 from (congrArg b2i hal))) ?_
  refine lv_if_eq (tgt := 23) hx hb dX5_share_17 (by decide) (fun c_17 => absurd c_17 (by decide)) (fun c_17 => ?_)
  refine lv_bipush (v := (-3)) hx hb dX5_share_20 (by decide) ?_
  exact g_iret hQ hc hw hr rfl rfl dX5_share_22

theorem dX5_share_23 : decode cX5_share 23 = .ok (.bipush 15, 2) := by decide +kernel
theorem dX5_share_25 : decode cX5_share 25 = .ok (.aload_n 0, 1) := by decide +kernel
theorem dX5_share_26 : decode cX5_share 26 = .ok (.getfield 26, 3) := by decide +kernel
theorem dX5_share_29 : decode cX5_share 29 = .ok (.getfield 235, 3) := by decide +kernel
theorem dX5_share_32 : decode cX5_share 32 = .ok (.iconst (-1), 1) := by decide +kernel
theorem dX5_share_33 : decode cX5_share 33 = .ok (.ixor, 1) := by decide +kernel
theorem dX5_share_34 : decode cX5_share 34 = .ok (.iand, 1) := by decide +kernel
theorem dX5_share_35 : decode cX5_share 35 = .ok (.istore_n 3, 1) := by decide +kernel
theorem dX5_share_36 : decode cX5_share 36 = .ok (.iload_n 3, 1) := by decide +kernel
theorem dX5_share_37 : decode cX5_share 37 = .ok (.invokestatic 238, 3) := by decide +kernel
theorem dX5_share_40 : decode cX5_share 40 = .ok (.istore 4, 2) := by decide +kernel
theorem dX5_share_42 : decode cX5_share 42 = .ok (.aload_n 0, 1) := by decide +kernel
theorem dX5_share_43 : decode cX5_share 43 = .ok (.iload_n 3, 1) := by decide +kernel
theorem dX5_share_44 : decode cX5_share 44 = .ok (.invokevirtual 243, 3) := by decide +kernel
theorem dX5_share_47 : decode cX5_share 47 = .ok (.iconst 0, 1) := by decide +kernel
theorem dX5_share_48 : decode cX5_share 48 = .ok (.istore 5, 2) := by decide +kernel
theorem dX5_share_50 : decode cX5_share 50 = .ok (.iconst 0, 1) := by decide +kernel
theorem dX5_share_51 : decode cX5_share 51 = .ok (.istore 6, 2) := by decide +kernel
theorem dX5_share_53 : decode cX5_share 53 = .ok (.iload 6, 2) := by decide +kernel
theorem dX5_share_55 : decode cX5_share 55 = .ok (.bipush 15, 2) := by decide +kernel
theorem dX5_share_57 : decode cX5_share 57 = .ok (.if_icmp .gt 75, 3) := by decide +kernel
theorem dX5_share_60 : decode cX5_share 60 = .ok (.iload 6, 2) := by decide +kernel
theorem dX5_share_62 : decode cX5_share 62 = .ok (.iload_n 3, 1) := by decide +kernel
theorem dX5_share_63 : decode cX5_share 63 = .ok (.iconst (-1), 1) := by decide +kernel
theorem dX5_share_64 : decode cX5_share 64 = .ok (.ixor, 1) := by decide +kernel
theorem dX5_share_65 : decode cX5_share 65 = .ok (.iand, 1) := by decide +kernel
theorem dX5_share_66 : decode cX5_share 66 = .ok (.ifCond .ne 60, 3) := by decide +kernel
theorem dX5_share_69 : decode cX5_share 69 = .ok (.iload 6, 2) := by decide +kernel
theorem dX5_share_71 : decode cX5_share 71 = .ok (.iconst 1, 1) := by decide +kernel
theorem dX5_share_72 : decode cX5_share 72 = .ok (.iload_n 1, 1) := by decide +kernel
theorem dX5_share_73 : decode cX5_share 73 = .ok (.ishl, 1) := by decide +kernel
theorem dX5_share_74 : decode cX5_share 74 = .ok (.iand, 1) := by decide +kernel
theorem dX5_share_75 : decode cX5_share 75 = .ok (.ifCond .ne 51, 3) := by decide +kernel
theorem dX5_share_78 : decode cX5_share 78 = .ok (.iload 6, 2) := by decide +kernel
theorem dX5_share_80 : decode cX5_share 80 = .ok (.invokestatic 238, 3) := by decide +kernel
theorem dX5_share_83 : decode cX5_share 83 = .ok (.istore 7, 2) := by decide +kernel
theorem dX5_share_85 : decode cX5_share 85 = .ok (.iload 5, 2) := by decide +kernel
theorem dX5_share_87 : decode cX5_share 87 = .ok (.iload 7, 2) := by decide +kernel
theorem dX5_share_89 : decode cX5_share 89 = .ok (.invokestatic 246, 3) := by decide +kernel
theorem dX5_share_92 : decode cX5_share 92 = .ok (.iload 4, 2) := by decide +kernel
theorem dX5_share_94 : decode cX5_share 94 = .ok (.iconst 1, 1) := by decide +kernel
theorem dX5_share_95 : decode cX5_share 95 = .ok (.isub, 1) := by decide +kernel
theorem dX5_share_96 : decode cX5_share 96 = .ok (.iload 7, 2) := by decide +kernel
theorem dX5_share_98 : decode cX5_share 98 = .ok (.isub, 1) := by decide +kernel
theorem dX5_share_99 : decode cX5_share 99 = .ok (.invokestatic 246, 3) := by decide +kernel
theorem dX5_share_102 : decode cX5_share 102 = .ok (.imul, 1) := by decide +kernel
theorem dX5_share_103 : decode cX5_share 103 = .ok (.aload_n 0, 1) := by decide +kernel
theorem dX5_share_104 : decode cX5_share 104 = .ok (.getfield 54, 3) := by decide +kernel
theorem dX5_share_107 : decode cX5_share 107 = .ok (.iload 6, 2) := by decide +kernel
theorem dX5_share_109 : decode cX5_share 109 = .ok (.iconst 1, 1) := by decide +kernel
theorem dX5_share_110 : decode cX5_share 110 = .ok (.iload_n 1, 1) := by decide +kernel
theorem dX5_share_111 : decode cX5_share 111 = .ok (.ishl, 1) := by decide +kernel
theorem dX5_share_112 : decode cX5_share 112 = .ok (.ior, 1) := by decide +kernel
theorem dX5_share_113 : decode cX5_share 113 = .ok (.iaload, 1) := by decide +kernel
theorem dX5_share_114 : decode cX5_share 114 = .ok (.aload_n 0, 1) := by decide +kernel
theorem dX5_share_115 : decode cX5_share 115 = .ok (.getfield 54, 3) := by decide +kernel
theorem dX5_share_118 : decode cX5_share 118 = .ok (.iload 6, 2) := by decide +kernel
theorem dX5_share_120 : decode cX5_share 120 = .ok (.iaload, 1) := by decide +kernel
theorem dX5_share_121 : decode cX5_share 121 = .ok (.isub, 1) := by decide +kernel
theorem dX5_share_122 : decode cX5_share 122 = .ok (.imul, 1) := by decide +kernel
theorem dX5_share_123 : decode cX5_share 123 = .ok (.iadd, 1) := by decide +kernel
theorem dX5_share_124 : decode cX5_share 124 = .ok (.istore 5, 2) := by decide +kernel
theorem dX5_share_126 : decode cX5_share 126 = .ok (.iinc 6 1, 3) := by decide +kernel
theorem dX5_share_129 : decode cX5_share 129 = .ok (.goto (-76), 3) := by decide +kernel
theorem dX5_share_132 : decode cX5_share 132 = .ok (.iload 5, 2) := by decide +kernel
theorem dX5_share_134 : decode cX5_share 134 = .ok (.iload 4, 2) := by decide +kernel
theorem dX5_share_136 : decode cX5_share 136 = .ok (.invokestatic 246, 3) := by decide +kernel
theorem dX5_share_139 : decode cX5_share 139 = .ok (.iload_n 2, 1) := by decide +kernel
theorem dX5_share_140 : decode cX5_share 140 = .ok (.invokestatic 249, 3) := by decide +kernel
theorem dX5_share_143 : decode cX5_share 143 = .ok (.ireturn, 1) := by decide +kernel
set_option maxRecDepth 20000 in
theorem ggX5_share_J6_bitCount_0f7a4 : GoodIn wsX5_share wsJ6_bitCount_0f7a4 := goodIn_r _ [18, 19, 20, 21] rfl (by decide +kernel)
set_option maxRecDepth 20000 in
theorem gX5_share_J6_bitCount_0f7a4 : GoodIn wsX5_share (va_wsS RX5 238 yJ6_bitCount_0f7a4 wsJ6_bitCount_0f7a4) := goodIn_app (goodIn_of _ (by decide +kernel)) ggX5_share_J6_bitCount_0f7a4
set_option maxRecDepth 20000 in
theorem ggX5_share_X5_weighSets : GoodIn wsX5_share wsX5_weighSets := goodIn_r _ [25, 26, 2, 27, 28, 29, 30, 5, 31, 1, 32, 11, 33, 34, 35, 36, 37, 38, 39, 40, 41, 14, 42, 43, 44, 45, 46, 47, 48, 49, 50, 51, 52, 53, 54, 55, 56, 57, 58, 59, 60, 16, 17, 18, 19, 20, 21, 61, 62, 63, 64, 65, 66, 67, 68, 69, 70, 71, 72, 73, 74, 75, 76, 77, 10, 12, 13, 78, 79, 80, 81, 82, 83, 84, 85, 86, 87, 88, 89, 90, 91, 92, 93, 94, 95, 96, 97, 98, 99, 100, 101, 102, 103, 104, 105, 106, 107, 108, 109, 110, 111, 112, 113, 114, 115, 116, 117, 118, 119, 120, 121, 122, 123, 124, 125, 126, 127, 128, 129, 130, 141, 142, 143, 144, 145, 146, 147, 148, 149, 150, 151, 152, 153, 154, 155, 156, 157, 158, 159, 160, 161, 162, 163, 164, 165, 166, 167, 168, 169, 170, 171, 172] rfl (by decide +kernel)
set_option maxRecDepth 20000 in
theorem gX5_share_X5_weighSets : GoodIn wsX5_share (wsV RX5 243 RX5 yX5_weighSets wsX5_weighSets) := goodIn_app (goodIn_of _ (by decide +kernel)) ggX5_share_X5_weighSets
set_option maxRecDepth 20000 in
theorem ggX5_share_X5_factorial : GoodIn wsX5_share wsX5_factorial := goodIn_r _ [133] rfl (by decide +kernel)
set_option maxRecDepth 20000 in
theorem gX5_share_X5_factorial : GoodIn wsX5_share (va_wsS RX5 246 yX5_factorial wsX5_factorial) := goodIn_app (goodIn_of _ (by decide +kernel)) ggX5_share_X5_factorial
set_option maxRecDepth 20000 in
theorem ggX5_share_X5_partOfLowest : GoodIn wsX5_share wsX5_partOfLowest := goodIn_r _ [136, 137, 138, 139, 140] rfl (by decide +kernel)
set_option maxRecDepth 20000 in
theorem gX5_share_X5_partOfLowest : GoodIn wsX5_share (va_wsS RX5 249 yX5_partOfLowest wsX5_partOfLowest) := goodIn_app (goodIn_of _ (by decide +kernel)) ggX5_share_X5_partOfLowest
theorem inX5_share_X4 : ∀ w ∈ u_ws RX4 TX4 11, w ∈ wsX5_share := fun w h => List.mem_cons_of_mem _ (List.mem_append_left _ (List.mem_append_right _ h))
set_option maxRecDepth 100000 in
set_option maxHeartbeats 4000000 in
theorem m_X5_share {l : Launch} {D : va_G} {E : Nat → ClassId} {T : Nat → Nat} (pl : Nat) (fa : Nat) (nf : Nat) (nw : Nat) (xa : Nat) (ba : Nat) (pa : Nat) (aa : Nat) (fl : Nat → Int32) (x : Nat → Int32) (J : PJ) (h : Nat) (hs : Nat) (ht : Nat) (hq : Nat) (S : TS) (B : Nat) (ob : Nat) (kh : Nat) (ks : Nat) (kt : Nat) (kq : Nat) (wa : Nat) (i : Nat) (z0 : Value) (z4 : Value) (z5 : Value) (z6 : Value) (z7 : Value) (z9 : Value) (z10 : Value) (g : Nat → Int32) (U : TS) (up : Bool) (hok : OkS B S) (hB : B + 20 < 2 ^ 31) (hnw : nw ≤ 6) (hnf : nf ≤ 6) (hi9 : i ≤ 3) (hal : (sD S).testBit i = false) : g_ME l D E T yX5_share wsX5_share 6 146 [.ref ob, .int (nI i), .int (b2i up)] [(ob, .inr (5, [z0, .ref pl, .ref h, .ref kh, z4, z5, z6, z7, .ref wa, z9, z10])), (pl, .inr (1, [.ref fa, .int (nI nf), .int (nI nw), .ref xa, .ref ba, .ref pa, .ref aa, .int (jS J), .int (jN J), .float (jH J)])), (fa, .inl (E 0, 18, .inl fl)), (xa, .inl (E 0, 3, .inl x)), (ba, .inl (E 0, 12, .inl (jB J))), (pa, .inl (E 1, 4, .inr (.inr (.inl (jE J))))), (aa, .inl (E 1, 4, .inr (.inr (.inl (jA J))))), (h, .inr (4, [.ref hs, .ref ht, .ref hq, .int (nI (sD S)), .int (sM S), .float (sP S), .int (sI S), .int (sC S), .int (sA S), .int (sR S), .int (nI (sK S))])), (hs, .inl (E 1, 4, .inr (.inr (.inl (sF S))))), (ht, .inl (E 0, 4, .inl (sT S))), (hq, .inl (E 0, 18, .inl (sW S))), (kh, .inr (4, [.ref ks, .ref kt, .ref kq, .int (nI (sD U)), .int (sM U), .float (sP U), .int (sI U), .int (sC U), .int (sA U), .int (sR U), .int (nI (sK U))])), (ks, .inl (E 1, 4, .inr (.inr (.inl (sF U))))), (kt, .inl (E 0, 4, .inl (sT U))), (kq, .inl (E 0, 18, .inl (sW U))), (wa, .inl (E 0, 16, .inl g))] (fun (u9 : PJ × TS) => [(ob, .inr (5, [z0, .ref pl, .ref h, .ref kh, z4, z5, z6, z7, .ref wa, z9, z10])), (pl, .inr (1, [.ref fa, .int (nI nf), .int (nI nw), .ref xa, .ref ba, .ref pa, .ref aa, .int (jS u9.1), .int (jN u9.1), .float (jH u9.1)])), (fa, .inl (E 0, 18, .inl fl)), (xa, .inl (E 0, 3, .inl x)), (ba, .inl (E 0, 12, .inl (jB u9.1))), (pa, .inl (E 1, 4, .inr (.inr (.inl (jE u9.1))))), (aa, .inl (E 1, 4, .inr (.inr (.inl (jA u9.1))))), (h, .inr (4, [.ref hs, .ref ht, .ref hq, .int (nI (sD S)), .int (sM S), .float (sP S), .int (sI S), .int (sC S), .int (sA S), .int (sR S), .int (nI (sK S))])), (hs, .inl (E 1, 4, .inr (.inr (.inl (sF S))))), (ht, .inl (E 0, 4, .inl (sT S))), (hq, .inl (E 0, 18, .inl (sW S))), (kh, .inr (4, [.ref ks, .ref kt, .ref kq, .int (nI (sD u9.2)), .int (sM u9.2), .float (sP u9.2), .int (sI u9.2), .int (sC u9.2), .int (sA u9.2), .int (sR u9.2), .int (nI (sK u9.2))])), (ks, .inl (E 1, 4, .inr (.inr (.inl (sF u9.2))))), (kt, .inl (E 0, 4, .inl (sT u9.2))), (kq, .inl (E 0, 18, .inl (sW u9.2))), (wa, .inl (E 0, 16, .inl (wgP nw nf fl x S (15 - sD S) g 16)))]) (some (.int (frF (shN (15 - sD S) (pcn (15 - sD S)) i (wgV nw nf fl x S) 16) (fcN (pcn (15 - sD S))) ((shN (15 - sD S) (pcn (15 - sD S)) i (wgV nw nf fl x S) 16).toInt.natAbs) up))) := by
  refine g_ME.of (cc := cX5_share) (nL := 8) (ret := (some .int)) (own := RX5) (lv := [(0, .ref ob), (1, .int (nI i)), (2, .int (b2i up))]) (by decide) rfl rfl (Nat.le_of_ble_eq_true rfl) rfl ?_
  intro p e R s m args below meth c A Q H locs ls hR hQ hc hr hw hl
  have hx := hc.1
  have hb := hc.2.1
  have hts := hc.2.2.2.1
  have hown := hc.2.2.2.2.1
  refine lv_iload_n hx hb dX5_share_0 rfl (lv_at hl 1 rfl) ?_
  refine g_cS (As := [.int (nI i)]) (n := 1) (rest := []) (wc := []) (w1 := []) (bytes := cX5_noWheel) (maxL := 1) (ret := (some .boolean)) hc hw hl.1 (m_X5_noWheel (l := l) (D := D) (E := E) (T := T) (nI i)) gX5_share_X5_noWheel rfl (by decide +kernel) (by rw [hR]; exact ⟨Nat.le_of_ble_eq_true rfl, Nat.le_of_ble_eq_true rfl⟩) [] (by decide) rfl [] rfl rfl rfl rfl (Nat.le_of_ble_eq_true rfl) dX5_share_1 ⟨Nat.zero_le _, Nat.zero_le _⟩ (fun H locs hw => ?_)
  have hw : g_W D A s [(ob, .inr (5, [z0, .ref pl, .ref h, .ref kh, z4, z5, z6, z7, .ref wa, z9, z10])), (pl, .inr (1, [.ref fa, .int (nI nf), .int (nI nw), .ref xa, .ref ba, .ref pa, .ref aa, .int (jS J), .int (jN J), .float (jH J)])), (fa, .inl (E 0, 18, .inl fl)), (xa, .inl (E 0, 3, .inl x)), (ba, .inl (E 0, 12, .inl (jB J))), (pa, .inl (E 1, 4, .inr (.inr (.inl (jE J))))), (aa, .inl (E 1, 4, .inr (.inr (.inl (jA J))))), (h, .inr (4, [.ref hs, .ref ht, .ref hq, .int (nI (sD S)), .int (sM S), .float (sP S), .int (sI S), .int (sC S), .int (sA S), .int (sR S), .int (nI (sK S))])), (hs, .inl (E 1, 4, .inr (.inr (.inl (sF S))))), (ht, .inl (E 0, 4, .inl (sT S))), (hq, .inl (E 0, 18, .inl (sW S))), (kh, .inr (4, [.ref ks, .ref kt, .ref kq, .int (nI (sD U)), .int (sM U), .float (sP U), .int (sI U), .int (sC U), .int (sA U), .int (sR U), .int (nI (sK U))])), (ks, .inl (E 1, 4, .inr (.inr (.inl (sF U))))), (kt, .inl (E 0, 4, .inl (sT U))), (kq, .inl (E 0, 18, .inl (sW U))), (wa, .inl (E 0, 16, .inl g))] H locs := hw
  refine W.eq (congrArg (fun z => F0 m 4 ls (.int z :: [])) (show (b2i (outB (nI i) 0 3) : Int32) = 0 from (congrArg b2i (out_nf (n := i) (a := 0) (b := 3) (by omega) hi9 (by decide))))) ?_
  refine lv_if_eq (tgt := 9) hx hb dX5_share_4 (by decide) (fun c_4 => ?_) (fun c_4 => absurd c_4 (by decide))
  refine lv_aload_n hx hb dX5_share_9 rfl (lv_at hl 0 rfl) ?_
  refine g_get (TT := TX5) hc hw inX5_share_X5 0 2 1 rfl rfl (by decide) rfl rfl dX5_share_10 ?_
  refine lv_iload_n hx hb dX5_share_13 rfl (lv_at hl 1 rfl) ?_
  refine g_cVN (As := [.int (nI i)]) (n := 1) (rest := []) (wc := [(h, .inr (4, [.ref hs, .ref ht, .ref hq, .int (nI (sD S)), .int (sM S), .float (sP S), .int (sI S), .int (sC S), .int (sA S), .int (sR S), .int (nI (sK S))]))]) (w1 := [(h, .inr (4, [.ref hs, .ref ht, .ref hq, .int (nI (sD S)), .int (sM S), .float (sP S), .int (sI S), .int (sC S), .int (sA S), .int (sR S), .int (nI (sK S))]))]) (bytes := cX4_isDead) (maxL := 2) (ret := (some .boolean)) hc hw hl.1 (m_X4_isDead (l := l) (D := D) (E := E) (T := T) h (.ref hs) (.ref ht) (.ref hq) (.int (sM S)) (.float (sP S)) (.int (sI S)) (.int (sC S)) (.int (sA S)) (.int (sR S)) (.int (nI (sK S))) (sD S) i hok.d (by omega)) ggX5_share_X4_isDead rfl 52 rfl 11 10 12 rfl rfl rfl (by decide +kernel) (by rw [hR]; exact ⟨Nat.le_of_ble_eq_true rfl, Nat.le_of_ble_eq_true rfl⟩) [7] 7 4 rfl rfl (by decide) rfl [h] rfl rfl rfl rfl (Nat.le_of_ble_eq_true rfl) dX5_share_14 ⟨Nat.zero_le _, Nat.zero_le _⟩ (fun H locs hw => ?_)
  have hw : g_W D A s [(ob, .inr (5, [z0, .ref pl, .ref h, .ref kh, z4, z5, z6, z7, .ref wa, z9, z10])), (pl, .inr (1, [.ref fa, .int (nI nf), .int (nI nw), .ref xa, .ref ba, .ref pa, .ref aa, .int (jS J), .int (jN J), .float (jH J)])), (fa, .inl (E 0, 18, .inl fl)), (xa, .inl (E 0, 3, .inl x)), (ba, .inl (E 0, 12, .inl (jB J))), (pa, .inl (E 1, 4, .inr (.inr (.inl (jE J))))), (aa, .inl (E 1, 4, .inr (.inr (.inl (jA J))))), (h, .inr (4, [.ref hs, .ref ht, .ref hq, .int (nI (sD S)), .int (sM S), .float (sP S), .int (sI S), .int (sC S), .int (sA S), .int (sR S), .int (nI (sK S))])), (hs, .inl (E 1, 4, .inr (.inr (.inl (sF S))))), (ht, .inl (E 0, 4, .inl (sT S))), (hq, .inl (E 0, 18, .inl (sW S))), (kh, .inr (4, [.ref ks, .ref kt, .ref kq, .int (nI (sD U)), .int (sM U), .float (sP U), .int (sI U), .int (sC U), .int (sA U), .int (sR U), .int (nI (sK U))])), (ks, .inl (E 1, 4, .inr (.inr (.inl (sF U))))), (kt, .inl (E 0, 4, .inl (sT U))), (kq, .inl (E 0, 18, .inl (sW U))), (wa, .inl (E 0, 16, .inl g))] H locs := hw
  refine W.eq (congrArg (fun z => F0 m 17 ls (.int z :: [])) (show (b2i ((sD S).testBit i) : Int32) = 0 from (congrArg b2i hal))) ?_
  refine lv_if_eq (tgt := 23) hx hb dX5_share_17 (by decide) (fun c_17 => ?_) (fun c_17 => absurd c_17 (by decide))
  refine lv_bipush (v := 15) hx hb dX5_share_23 (by decide) ?_
  refine lv_aload_n hx hb dX5_share_25 rfl (lv_at hl 0 rfl) ?_
  refine g_get (TT := TX5) hc hw inX5_share_X5 0 2 1 rfl rfl (by decide) rfl rfl dX5_share_26 ?_
  refine g_getN (TT := TX4) hc hw inX5_share_X4 7 3 25 rfl rfl (by decide) rfl rfl dX5_share_29 ?_
  refine lv_iconst (v := (-1)) hx hb dX5_share_32 (by decide) ?_
  refine lv_ixor hx hb dX5_share_33 ?_
  refine lv_iand hx hb dX5_share_34 ?_
  refine W.eq (congrArg (fun z => F0 m 35 ls (.int z :: [])) (show (15 &&& ((nI (sD S)) ^^^ (-1)) : Int32) = nI (15 - sD S) from (not15 _ hok.d))) ?_
  refine lv_istore_n (lv' := [(3, .int (nI (15 - sD S))), (0, .ref ob), (1, .int (nI i)), (2, .int (b2i up))]) hx hb dX5_share_35 rfl hl (by decide) rfl (fun ls hl => ?_)
  refine lv_iload_n hx hb dX5_share_36 rfl (lv_at hl 0 rfl) ?_
  refine g_cS (As := [.int (nI (15 - sD S))]) (n := 1) (rest := []) (wc := []) (w1 := []) (bytes := cJ6_bitCount_0f7a4) (maxL := 1) (ret := (some .int)) hc hw hl.1 (m_J6_bitCount_0f7a4 (l := l) (D := D) (E := E) (T := T) (15 - sD S) (by omega)) gX5_share_J6_bitCount_0f7a4 rfl (by decide +kernel) (by rw [hR]; exact ⟨Nat.le_of_ble_eq_true rfl, Nat.le_of_ble_eq_true rfl⟩) [] (by decide) rfl [] rfl rfl rfl rfl (Nat.le_of_ble_eq_true rfl) dX5_share_37 ⟨Nat.zero_le _, Nat.zero_le _⟩ (fun H locs hw => ?_)
  have hw : g_W D A s [(ob, .inr (5, [z0, .ref pl, .ref h, .ref kh, z4, z5, z6, z7, .ref wa, z9, z10])), (pl, .inr (1, [.ref fa, .int (nI nf), .int (nI nw), .ref xa, .ref ba, .ref pa, .ref aa, .int (jS J), .int (jN J), .float (jH J)])), (fa, .inl (E 0, 18, .inl fl)), (xa, .inl (E 0, 3, .inl x)), (ba, .inl (E 0, 12, .inl (jB J))), (pa, .inl (E 1, 4, .inr (.inr (.inl (jE J))))), (aa, .inl (E 1, 4, .inr (.inr (.inl (jA J))))), (h, .inr (4, [.ref hs, .ref ht, .ref hq, .int (nI (sD S)), .int (sM S), .float (sP S), .int (sI S), .int (sC S), .int (sA S), .int (sR S), .int (nI (sK S))])), (hs, .inl (E 1, 4, .inr (.inr (.inl (sF S))))), (ht, .inl (E 0, 4, .inl (sT S))), (hq, .inl (E 0, 18, .inl (sW S))), (kh, .inr (4, [.ref ks, .ref kt, .ref kq, .int (nI (sD U)), .int (sM U), .float (sP U), .int (sI U), .int (sC U), .int (sA U), .int (sR U), .int (nI (sK U))])), (ks, .inl (E 1, 4, .inr (.inr (.inl (sF U))))), (kt, .inl (E 0, 4, .inl (sT U))), (kq, .inl (E 0, 18, .inl (sW U))), (wa, .inl (E 0, 16, .inl g))] H locs := hw
  refine lv_istore (lv' := [(4, .int (nI (pcn (15 - sD S)))), (3, .int (nI (15 - sD S))), (0, .ref ob), (1, .int (nI i)), (2, .int (b2i up))]) hx hb dX5_share_40 hl (by decide) rfl (fun ls hl => ?_)
  refine lv_aload_n hx hb dX5_share_42 rfl (lv_at hl 2 rfl) ?_
  refine lv_iload_n hx hb dX5_share_43 rfl (lv_at hl 1 rfl) ?_
  refine g_cEV (As := [.int (nI (15 - sD S))]) (n := 1) (rest := []) (wc := [(ob, .inr (5, [z0, .ref pl, .ref h, .ref kh, z4, z5, z6, z7, .ref wa, z9, z10])), (pl, .inr (1, [.ref fa, .int (nI nf), .int (nI nw), .ref xa, .ref ba, .ref pa, .ref aa, .int (jS J), .int (jN J), .float (jH J)])), (fa, .inl (E 0, 18, .inl fl)), (xa, .inl (E 0, 3, .inl x)), (ba, .inl (E 0, 12, .inl (jB J))), (pa, .inl (E 1, 4, .inr (.inr (.inl (jE J))))), (aa, .inl (E 1, 4, .inr (.inr (.inl (jA J))))), (h, .inr (4, [.ref hs, .ref ht, .ref hq, .int (nI (sD S)), .int (sM S), .float (sP S), .int (sI S), .int (sC S), .int (sA S), .int (sR S), .int (nI (sK S))])), (hs, .inl (E 1, 4, .inr (.inr (.inl (sF S))))), (ht, .inl (E 0, 4, .inl (sT S))), (hq, .inl (E 0, 18, .inl (sW S))), (kh, .inr (4, [.ref ks, .ref kt, .ref kq, .int (nI (sD U)), .int (sM U), .float (sP U), .int (sI U), .int (sC U), .int (sA U), .int (sR U), .int (nI (sK U))])), (ks, .inl (E 1, 4, .inr (.inr (.inl (sF U))))), (kt, .inl (E 0, 4, .inl (sT U))), (kq, .inl (E 0, 18, .inl (sW U))), (wa, .inl (E 0, 16, .inl g))]) (w1 := (fun (u9 : PJ × TS) => [(ob, .inr (5, [z0, .ref pl, .ref h, .ref kh, z4, z5, z6, z7, .ref wa, z9, z10])), (pl, .inr (1, [.ref fa, .int (nI nf), .int (nI nw), .ref xa, .ref ba, .ref pa, .ref aa, .int (jS u9.1), .int (jN u9.1), .float (jH u9.1)])), (fa, .inl (E 0, 18, .inl fl)), (xa, .inl (E 0, 3, .inl x)), (ba, .inl (E 0, 12, .inl (jB u9.1))), (pa, .inl (E 1, 4, .inr (.inr (.inl (jE u9.1))))), (aa, .inl (E 1, 4, .inr (.inr (.inl (jA u9.1))))), (h, .inr (4, [.ref hs, .ref ht, .ref hq, .int (nI (sD S)), .int (sM S), .float (sP S), .int (sI S), .int (sC S), .int (sA S), .int (sR S), .int (nI (sK S))])), (hs, .inl (E 1, 4, .inr (.inr (.inl (sF S))))), (ht, .inl (E 0, 4, .inl (sT S))), (hq, .inl (E 0, 18, .inl (sW S))), (kh, .inr (4, [.ref ks, .ref kt, .ref kq, .int (nI (sD u9.2)), .int (sM u9.2), .float (sP u9.2), .int (sI u9.2), .int (sC u9.2), .int (sA u9.2), .int (sR u9.2), .int (nI (sK u9.2))])), (ks, .inl (E 1, 4, .inr (.inr (.inl (sF u9.2))))), (kt, .inl (E 0, 4, .inl (sT u9.2))), (kq, .inl (E 0, 18, .inl (sW u9.2))), (wa, .inl (E 0, 16, .inl (wgP nw nf fl x S (15 - sD S) g 16)))])) (bytes := cX5_weighSets) (maxL := 3) (ret := none) hc hw hl.1 (m_X5_weighSets (l := l) (D := D) (E := E) (T := T) pl fa nf nw xa ba pa aa fl x J h hs ht hq S B ob kh ks kt kq z0 z4 z5 z6 z7 z9 z10 wa (15 - sD S) g U (by first | assumption | omega | decide) (by omega) (by first | assumption | omega | decide) (by first | assumption | omega | decide) (by omega)) gX5_share_X5_weighSets rfl (by decide +kernel) (by rw [hR]; exact ⟨Nat.le_of_ble_eq_true rfl, Nat.le_of_ble_eq_true rfl⟩) [0, 1, 2, 3, 4, 5, 6, 7, 8, 9, 10, 11, 12, 13, 14, 15] 0 5 rfl rfl (by decide) rfl [ob, pl, fa, xa, ba, pa, aa, h, hs, ht, hq, kh, ks, kt, kq, wa] (fun _ => rfl) rfl rfl rfl (Nat.le_of_ble_eq_true rfl) dX5_share_44 ⟨Nat.zero_le _, Nat.zero_le _⟩ (fun u_1 H locs hw => ?_)
  obtain ⟨J1_u_1, S1_u_1⟩ := u_1
  have hw : g_W D A s [(ob, .inr (5, [z0, .ref pl, .ref h, .ref kh, z4, z5, z6, z7, .ref wa, z9, z10])), (pl, .inr (1, [.ref fa, .int (nI nf), .int (nI nw), .ref xa, .ref ba, .ref pa, .ref aa, .int (jS J1_u_1), .int (jN J1_u_1), .float (jH J1_u_1)])), (fa, .inl (E 0, 18, .inl fl)), (xa, .inl (E 0, 3, .inl x)), (ba, .inl (E 0, 12, .inl (jB J1_u_1))), (pa, .inl (E 1, 4, .inr (.inr (.inl (jE J1_u_1))))), (aa, .inl (E 1, 4, .inr (.inr (.inl (jA J1_u_1))))), (h, .inr (4, [.ref hs, .ref ht, .ref hq, .int (nI (sD S)), .int (sM S), .float (sP S), .int (sI S), .int (sC S), .int (sA S), .int (sR S), .int (nI (sK S))])), (hs, .inl (E 1, 4, .inr (.inr (.inl (sF S))))), (ht, .inl (E 0, 4, .inl (sT S))), (hq, .inl (E 0, 18, .inl (sW S))), (kh, .inr (4, [.ref ks, .ref kt, .ref kq, .int (nI (sD S1_u_1)), .int (sM S1_u_1), .float (sP S1_u_1), .int (sI S1_u_1), .int (sC S1_u_1), .int (sA S1_u_1), .int (sR S1_u_1), .int (nI (sK S1_u_1))])), (ks, .inl (E 1, 4, .inr (.inr (.inl (sF S1_u_1))))), (kt, .inl (E 0, 4, .inl (sT S1_u_1))), (kq, .inl (E 0, 18, .inl (sW S1_u_1))), (wa, .inl (E 0, 16, .inl (wgP nw nf fl x S (15 - sD S) g 16)))] H locs := g_sbl (a := 0) (n := 16) (Nat.le_of_ble_eq_true rfl) rfl rfl rfl hw
  refine lv_iconst (v := 0) hx hb dX5_share_47 (by decide) ?_
  refine lv_istore (lv' := [(5, .int 0), (4, .int (nI (pcn (15 - sD S)))), (3, .int (nI (15 - sD S))), (0, .ref ob), (1, .int (nI i)), (2, .int (b2i up))]) hx hb dX5_share_48 hl (by decide) rfl (fun ls hl => ?_)
  refine lv_iconst (v := 0) hx hb dX5_share_50 (by decide) ?_
  refine lv_istore (lv' := [(6, .int 0), (5, .int 0), (4, .int (nI (pcn (15 - sD S)))), (3, .int (nI (15 - sD S))), (0, .ref ob), (1, .int (nI i)), (2, .int (b2i up))]) hx hb dX5_share_51 hl (by decide) rfl (fun ls hl => ?_)
  have J53 : ∀ (k9 : Nat) (a : Nat), a + k9 = 16 → ∀ (H : Heap) (locs : List Loc) (ls : Array Slot), g_W D A s [(ob, .inr (5, [z0, .ref pl, .ref h, .ref kh, z4, z5, z6, z7, .ref wa, z9, z10])), (pl, .inr (1, [.ref fa, .int (nI nf), .int (nI nw), .ref xa, .ref ba, .ref pa, .ref aa, .int (jS J1_u_1), .int (jN J1_u_1), .float (jH J1_u_1)])), (fa, .inl (E 0, 18, .inl fl)), (xa, .inl (E 0, 3, .inl x)), (ba, .inl (E 0, 12, .inl (jB J1_u_1))), (pa, .inl (E 1, 4, .inr (.inr (.inl (jE J1_u_1))))), (aa, .inl (E 1, 4, .inr (.inr (.inl (jA J1_u_1))))), (h, .inr (4, [.ref hs, .ref ht, .ref hq, .int (nI (sD S)), .int (sM S), .float (sP S), .int (sI S), .int (sC S), .int (sA S), .int (sR S), .int (nI (sK S))])), (hs, .inl (E 1, 4, .inr (.inr (.inl (sF S))))), (ht, .inl (E 0, 4, .inl (sT S))), (hq, .inl (E 0, 18, .inl (sW S))), (kh, .inr (4, [.ref ks, .ref kt, .ref kq, .int (nI (sD S1_u_1)), .int (sM S1_u_1), .float (sP S1_u_1), .int (sI S1_u_1), .int (sC S1_u_1), .int (sA S1_u_1), .int (sR S1_u_1), .int (nI (sK S1_u_1))])), (ks, .inl (E 1, 4, .inr (.inr (.inl (sF S1_u_1))))), (kt, .inl (E 0, 4, .inl (sT S1_u_1))), (kq, .inl (E 0, 18, .inl (sW S1_u_1))), (wa, .inl (E 0, 16, .inl (wgP nw nf fl x S (15 - sD S) g 16)))] H locs → lv_has ls 8 [(0, .ref ob), (1, .int (nI i)), (2, .int (b2i up)), (3, .int (nI (15 - sD S))), (4, .int (nI (pcn (15 - sD S)))), (5, .int (shN (15 - sD S) (pcn (15 - sD S)) i (wgV nw nf fl x S) a)), (6, .int (nI a))] → W p l e R s m args below meth c H locs 0 0 Q (F0 m 53 ls []) := by
    intro k9
    induction k9 with
    | zero =>
      intro a h9   H locs ls hw hl
      have h9 : a = 16 := h9
      subst h9
      refine lv_iload hx hb dX5_share_53 (lv_at hl 6 rfl) ?_
      refine lv_bipush (v := 15) hx hb dX5_share_55 (by decide) ?_
      refine lv_icmp_gt (tgt := 132) hx hb dX5_share_57 (by decide) (fun c_57 => ?_) (fun c_57 => absurd (by decide) c_57)
      refine lv_iload hx hb dX5_share_132 (lv_at hl 5 rfl) ?_
      refine lv_iload hx hb dX5_share_134 (lv_at hl 4 rfl) ?_
      refine g_cS (As := [.int (nI (pcn (15 - sD S)))]) (n := 1) (rest := [.int (shN (15 - sD S) (pcn (15 - sD S)) i (wgV nw nf fl x S) 16)]) (wc := []) (w1 := []) (bytes := cX5_factorial) (maxL := 3) (ret := (some .int)) hc hw hl.1 (m_X5_factorial (l := l) (D := D) (E := E) (T := T) (pcn (15 - sD S)) (by have := pcn_lt ((15 - sD S)) (by omega); omega)) gX5_share_X5_factorial rfl (by decide +kernel) (by rw [hR]; exact ⟨Nat.le_of_ble_eq_true rfl, Nat.le_of_ble_eq_true rfl⟩) [] (by decide) rfl [] rfl rfl rfl rfl (Nat.le_of_ble_eq_true rfl) dX5_share_136 ⟨Nat.zero_le _, Nat.zero_le _⟩ (fun H locs hw => ?_)
      have hw : g_W D A s [(ob, .inr (5, [z0, .ref pl, .ref h, .ref kh, z4, z5, z6, z7, .ref wa, z9, z10])), (pl, .inr (1, [.ref fa, .int (nI nf), .int (nI nw), .ref xa, .ref ba, .ref pa, .ref aa, .int (jS J1_u_1), .int (jN J1_u_1), .float (jH J1_u_1)])), (fa, .inl (E 0, 18, .inl fl)), (xa, .inl (E 0, 3, .inl x)), (ba, .inl (E 0, 12, .inl (jB J1_u_1))), (pa, .inl (E 1, 4, .inr (.inr (.inl (jE J1_u_1))))), (aa, .inl (E 1, 4, .inr (.inr (.inl (jA J1_u_1))))), (h, .inr (4, [.ref hs, .ref ht, .ref hq, .int (nI (sD S)), .int (sM S), .float (sP S), .int (sI S), .int (sC S), .int (sA S), .int (sR S), .int (nI (sK S))])), (hs, .inl (E 1, 4, .inr (.inr (.inl (sF S))))), (ht, .inl (E 0, 4, .inl (sT S))), (hq, .inl (E 0, 18, .inl (sW S))), (kh, .inr (4, [.ref ks, .ref kt, .ref kq, .int (nI (sD S1_u_1)), .int (sM S1_u_1), .float (sP S1_u_1), .int (sI S1_u_1), .int (sC S1_u_1), .int (sA S1_u_1), .int (sR S1_u_1), .int (nI (sK S1_u_1))])), (ks, .inl (E 1, 4, .inr (.inr (.inl (sF S1_u_1))))), (kt, .inl (E 0, 4, .inl (sT S1_u_1))), (kq, .inl (E 0, 18, .inl (sW S1_u_1))), (wa, .inl (E 0, 16, .inl (wgP nw nf fl x S (15 - sD S) g 16)))] H locs := hw
      refine W.eq (congrArg (fun z => F0 m 139 ls (.int z :: [.int (shN (15 - sD S) (pcn (15 - sD S)) i (wgV nw nf fl x S) 16)])) (show (facF (pcn (15 - sD S)) : Int32) = nI (fcN (pcn (15 - sD S))) from (fac_n _))) ?_
      refine lv_iload_n hx hb dX5_share_139 rfl (lv_at hl 2 rfl) ?_
      refine g_cS (As := [.int (shN (15 - sD S) (pcn (15 - sD S)) i (wgV nw nf fl x S) 16), .int (nI (fcN (pcn (15 - sD S)))), .int (b2i up)]) (n := 3) (rest := []) (wc := []) (w1 := []) (bytes := cX5_partOfLowest) (maxL := 7) (ret := (some .int)) hc hw hl.1 (m_X5_partOfLowest (l := l) (D := D) (E := E) (T := T) (shN (15 - sD S) (pcn (15 - sD S)) i (wgV nw nf fl x S) 16) (fcN (pcn (15 - sD S))) ((shN (15 - sD S) (pcn (15 - sD S)) i (wgV nw nf fl x S) 16).toInt.natAbs) up ((sh_abs hok nw nf fl x (pcn_4 _) i hi9).1) ((sh_abs hok nw nf fl x (pcn_4 _) i hi9).2) (fcN_pos _) (Nat.lt_of_le_of_lt (fcN_le _ (pcn_4 _)) (by decide))) gX5_share_X5_partOfLowest rfl (by decide +kernel) (by rw [hR]; exact ⟨Nat.le_of_ble_eq_true rfl, Nat.le_of_ble_eq_true rfl⟩) [] (by decide) rfl [] rfl rfl rfl rfl (Nat.le_of_ble_eq_true rfl) dX5_share_140 ⟨Nat.zero_le _, Nat.zero_le _⟩ (fun H locs hw => ?_)
      have hw : g_W D A s [(ob, .inr (5, [z0, .ref pl, .ref h, .ref kh, z4, z5, z6, z7, .ref wa, z9, z10])), (pl, .inr (1, [.ref fa, .int (nI nf), .int (nI nw), .ref xa, .ref ba, .ref pa, .ref aa, .int (jS J1_u_1), .int (jN J1_u_1), .float (jH J1_u_1)])), (fa, .inl (E 0, 18, .inl fl)), (xa, .inl (E 0, 3, .inl x)), (ba, .inl (E 0, 12, .inl (jB J1_u_1))), (pa, .inl (E 1, 4, .inr (.inr (.inl (jE J1_u_1))))), (aa, .inl (E 1, 4, .inr (.inr (.inl (jA J1_u_1))))), (h, .inr (4, [.ref hs, .ref ht, .ref hq, .int (nI (sD S)), .int (sM S), .float (sP S), .int (sI S), .int (sC S), .int (sA S), .int (sR S), .int (nI (sK S))])), (hs, .inl (E 1, 4, .inr (.inr (.inl (sF S))))), (ht, .inl (E 0, 4, .inl (sT S))), (hq, .inl (E 0, 18, .inl (sW S))), (kh, .inr (4, [.ref ks, .ref kt, .ref kq, .int (nI (sD S1_u_1)), .int (sM S1_u_1), .float (sP S1_u_1), .int (sI S1_u_1), .int (sC S1_u_1), .int (sA S1_u_1), .int (sR S1_u_1), .int (nI (sK S1_u_1))])), (ks, .inl (E 1, 4, .inr (.inr (.inl (sF S1_u_1))))), (kt, .inl (E 0, 4, .inl (sT S1_u_1))), (kq, .inl (E 0, 18, .inl (sW S1_u_1))), (wa, .inl (E 0, 16, .inl (wgP nw nf fl x S (15 - sD S) g 16)))] H locs := hw
      exact g_iretE (J1_u_1, S1_u_1) hQ hc hw hr rfl rfl dX5_share_143
    | succ k9 ih =>
      intro a h9   H locs ls hw hl
      have h9b : a < 16 := by omega
      refine lv_iload hx hb dX5_share_53 (lv_at hl 6 rfl) ?_
      refine lv_bipush (v := 15) hx hb dX5_share_55 (by decide) ?_
      refine lv_icmp_gt (tgt := 132) hx hb dX5_share_57 (by decide) (fun c_57 => absurd c_57 (nI_nlt (show a ≤ 15 by omega) (by decide))) (fun c_57 => ?_)
      refine lv_iload hx hb dX5_share_60 (lv_at hl 6 rfl) ?_
      refine lv_iload_n hx hb dX5_share_62 rfl (lv_at hl 3 rfl) ?_
      refine lv_iconst (v := (-1)) hx hb dX5_share_63 (by decide) ?_
      refine lv_ixor hx hb dX5_share_64 ?_
      refine lv_iand hx hb dX5_share_65 ?_
      refine lv_if_ne (tgt := 126) hx hb dX5_share_66 (by decide) (fun c_66 => ?_) (fun c_66 => ?_)
      · skip
        have h66 : ¬ a &&& (15 - sD S) = a := fun q => c_66 ((sb16 a (by omega) (15 - sD S) (by omega)).mpr q)
        refine lv_iinc (v := nI (a + 1)) (lv' := [(6, .int (nI (a + 1))), (0, .ref ob), (1, .int (nI i)), (2, .int (b2i up)), (3, .int (nI (15 - sD S))), (4, .int (nI (pcn (15 - sD S)))), (5, .int (shN (15 - sD S) (pcn (15 - sD S)) i (wgV nw nf fl x S) a))]) hx hb dX5_share_126 hl (k := 6) rfl (n_inc1 rfl) (by decide) rfl (fun ls hl => ?_)
        refine lv_goto (tgt := 53) hx hb dX5_share_129 (by decide) ?_
        have hl := lv_conv hl 6 rfl (v' := (.int (shN (15 - sD S) (pcn (15 - sD S)) i (wgV nw nf fl x S) (a + 1)))) (by exact congrArg Value.int ((if_neg (fun q => h66 q.1)).symm))
        have hl : lv_has ls 8 [(6, .int (nI (a + 1))), (0, .ref ob), (1, .int (nI i)), (2, .int (b2i up)), (3, .int (nI (15 - sD S))), (4, .int (nI (pcn (15 - sD S)))), (5, .int (shN (15 - sD S) (pcn (15 - sD S)) i (wgV nw nf fl x S) (a + 1)))] := hl
        exact ih (a + 1) (by omega)   _ _ _ hw (lv_sub hl [1, 2, 3, 4, 5, 6, 0] rfl)
      · skip
        have h66 : a &&& (15 - sD S) = a := (sb16 a (by omega) (15 - sD S) (by omega)).mp c_66
        refine lv_iload hx hb dX5_share_69 (lv_at hl 6 rfl) ?_
        refine lv_iconst (v := 1) hx hb dX5_share_71 (by decide) ?_
        refine lv_iload_n hx hb dX5_share_72 rfl (lv_at hl 1 rfl) ?_
        refine lv_ishl hx hb dX5_share_73 ?_
        refine lv_iand hx hb dX5_share_74 ?_
        refine lv_if_ne (tgt := 126) hx hb dX5_share_75 (by decide) (fun c_75 => ?_) (fun c_75 => ?_)
        · skip
          have h75 : a.testBit i = true := eq_true_of_ne_false (fun q => c_75 ((g_bit16 a (by omega) i (by omega)).mpr q))
          refine lv_iinc (v := nI (a + 1)) (lv' := [(6, .int (nI (a + 1))), (0, .ref ob), (1, .int (nI i)), (2, .int (b2i up)), (3, .int (nI (15 - sD S))), (4, .int (nI (pcn (15 - sD S)))), (5, .int (shN (15 - sD S) (pcn (15 - sD S)) i (wgV nw nf fl x S) a))]) hx hb dX5_share_126 hl (k := 6) rfl (n_inc1 rfl) (by decide) rfl (fun ls hl => ?_)
          refine lv_goto (tgt := 53) hx hb dX5_share_129 (by decide) ?_
          have hl := lv_conv hl 6 rfl (v' := (.int (shN (15 - sD S) (pcn (15 - sD S)) i (wgV nw nf fl x S) (a + 1)))) (by exact congrArg Value.int ((if_neg (fun q => Bool.noConfusion (h75.symm.trans q.2))).symm))
          have hl : lv_has ls 8 [(6, .int (nI (a + 1))), (0, .ref ob), (1, .int (nI i)), (2, .int (b2i up)), (3, .int (nI (15 - sD S))), (4, .int (nI (pcn (15 - sD S)))), (5, .int (shN (15 - sD S) (pcn (15 - sD S)) i (wgV nw nf fl x S) (a + 1)))] := hl
          exact ih (a + 1) (by omega)   _ _ _ hw (lv_sub hl [1, 2, 3, 4, 5, 6, 0] rfl)
        · skip
          have h75 : a.testBit i = false := (g_bit16 a (by omega) i (by omega)).mp c_75
          have hsub := sh_sub (sD S) hok.d i (by omega) a (by omega) ⟨hal, h66, h75⟩
          refine lv_iload hx hb dX5_share_78 (lv_at hl 6 rfl) ?_
          refine g_cS (As := [.int (nI a)]) (n := 1) (rest := []) (wc := []) (w1 := []) (bytes := cJ6_bitCount_0f7a4) (maxL := 1) (ret := (some .int)) hc hw hl.1 (m_J6_bitCount_0f7a4 (l := l) (D := D) (E := E) (T := T) a (by omega)) gX5_share_J6_bitCount_0f7a4 rfl (by decide +kernel) (by rw [hR]; exact ⟨Nat.le_of_ble_eq_true rfl, Nat.le_of_ble_eq_true rfl⟩) [] (by decide) rfl [] rfl rfl rfl rfl (Nat.le_of_ble_eq_true rfl) dX5_share_80 ⟨Nat.zero_le _, Nat.zero_le _⟩ (fun H locs hw => ?_)
          have hw : g_W D A s [(ob, .inr (5, [z0, .ref pl, .ref h, .ref kh, z4, z5, z6, z7, .ref wa, z9, z10])), (pl, .inr (1, [.ref fa, .int (nI nf), .int (nI nw), .ref xa, .ref ba, .ref pa, .ref aa, .int (jS J1_u_1), .int (jN J1_u_1), .float (jH J1_u_1)])), (fa, .inl (E 0, 18, .inl fl)), (xa, .inl (E 0, 3, .inl x)), (ba, .inl (E 0, 12, .inl (jB J1_u_1))), (pa, .inl (E 1, 4, .inr (.inr (.inl (jE J1_u_1))))), (aa, .inl (E 1, 4, .inr (.inr (.inl (jA J1_u_1))))), (h, .inr (4, [.ref hs, .ref ht, .ref hq, .int (nI (sD S)), .int (sM S), .float (sP S), .int (sI S), .int (sC S), .int (sA S), .int (sR S), .int (nI (sK S))])), (hs, .inl (E 1, 4, .inr (.inr (.inl (sF S))))), (ht, .inl (E 0, 4, .inl (sT S))), (hq, .inl (E 0, 18, .inl (sW S))), (kh, .inr (4, [.ref ks, .ref kt, .ref kq, .int (nI (sD S1_u_1)), .int (sM S1_u_1), .float (sP S1_u_1), .int (sI S1_u_1), .int (sC S1_u_1), .int (sA S1_u_1), .int (sR S1_u_1), .int (nI (sK S1_u_1))])), (ks, .inl (E 1, 4, .inr (.inr (.inl (sF S1_u_1))))), (kt, .inl (E 0, 4, .inl (sT S1_u_1))), (kq, .inl (E 0, 18, .inl (sW S1_u_1))), (wa, .inl (E 0, 16, .inl (wgP nw nf fl x S (15 - sD S) g 16)))] H locs := hw
          refine lv_istore (lv' := [(7, .int (nI (pcn a))), (0, .ref ob), (1, .int (nI i)), (2, .int (b2i up)), (3, .int (nI (15 - sD S))), (4, .int (nI (pcn (15 - sD S)))), (5, .int (shN (15 - sD S) (pcn (15 - sD S)) i (wgV nw nf fl x S) a)), (6, .int (nI a))]) hx hb dX5_share_83 hl (by decide) rfl (fun ls hl => ?_)
          refine lv_iload hx hb dX5_share_85 (lv_at hl 6 rfl) ?_
          refine lv_iload hx hb dX5_share_87 (lv_at hl 0 rfl) ?_
          refine g_cS (As := [.int (nI (pcn a))]) (n := 1) (rest := [.int (shN (15 - sD S) (pcn (15 - sD S)) i (wgV nw nf fl x S) a)]) (wc := []) (w1 := []) (bytes := cX5_factorial) (maxL := 3) (ret := (some .int)) hc hw hl.1 (m_X5_factorial (l := l) (D := D) (E := E) (T := T) (pcn a) (by have := pcn_lt (a) (by omega); omega)) gX5_share_X5_factorial rfl (by decide +kernel) (by rw [hR]; exact ⟨Nat.le_of_ble_eq_true rfl, Nat.le_of_ble_eq_true rfl⟩) [] (by decide) rfl [] rfl rfl rfl rfl (Nat.le_of_ble_eq_true rfl) dX5_share_89 ⟨Nat.zero_le _, Nat.zero_le _⟩ (fun H locs hw => ?_)
          have hw : g_W D A s [(ob, .inr (5, [z0, .ref pl, .ref h, .ref kh, z4, z5, z6, z7, .ref wa, z9, z10])), (pl, .inr (1, [.ref fa, .int (nI nf), .int (nI nw), .ref xa, .ref ba, .ref pa, .ref aa, .int (jS J1_u_1), .int (jN J1_u_1), .float (jH J1_u_1)])), (fa, .inl (E 0, 18, .inl fl)), (xa, .inl (E 0, 3, .inl x)), (ba, .inl (E 0, 12, .inl (jB J1_u_1))), (pa, .inl (E 1, 4, .inr (.inr (.inl (jE J1_u_1))))), (aa, .inl (E 1, 4, .inr (.inr (.inl (jA J1_u_1))))), (h, .inr (4, [.ref hs, .ref ht, .ref hq, .int (nI (sD S)), .int (sM S), .float (sP S), .int (sI S), .int (sC S), .int (sA S), .int (sR S), .int (nI (sK S))])), (hs, .inl (E 1, 4, .inr (.inr (.inl (sF S))))), (ht, .inl (E 0, 4, .inl (sT S))), (hq, .inl (E 0, 18, .inl (sW S))), (kh, .inr (4, [.ref ks, .ref kt, .ref kq, .int (nI (sD S1_u_1)), .int (sM S1_u_1), .float (sP S1_u_1), .int (sI S1_u_1), .int (sC S1_u_1), .int (sA S1_u_1), .int (sR S1_u_1), .int (nI (sK S1_u_1))])), (ks, .inl (E 1, 4, .inr (.inr (.inl (sF S1_u_1))))), (kt, .inl (E 0, 4, .inl (sT S1_u_1))), (kq, .inl (E 0, 18, .inl (sW S1_u_1))), (wa, .inl (E 0, 16, .inl (wgP nw nf fl x S (15 - sD S) g 16)))] H locs := hw
          refine lv_iload hx hb dX5_share_92 (lv_at hl 5 rfl) ?_
          refine lv_iconst (v := 1) hx hb dX5_share_94 (by decide) ?_
          refine lv_isub hx hb dX5_share_95 ?_
          refine lv_iload hx hb dX5_share_96 (lv_at hl 0 rfl) ?_
          refine lv_isub hx hb dX5_share_98 ?_
          refine W.eq (congrArg (fun z => F0 m 99 ls (.int z :: [.int (facF (pcn a)), .int (shN (15 - sD S) (pcn (15 - sD S)) i (wgV nw nf fl x S) a)])) (show (((nI (pcn (15 - sD S))) - 1) - (nI (pcn a)) : Int32) = nI (pcn (15 - sD S) - 1 - pcn a) from (n_sub (n_sub (b := 1) rfl rfl (by have := hsub.1; omega)) rfl (by have := hsub.1; omega)))) ?_
          refine g_cS (As := [.int (nI (pcn (15 - sD S) - 1 - pcn a))]) (n := 1) (rest := [.int (facF (pcn a)), .int (shN (15 - sD S) (pcn (15 - sD S)) i (wgV nw nf fl x S) a)]) (wc := []) (w1 := []) (bytes := cX5_factorial) (maxL := 3) (ret := (some .int)) hc hw hl.1 (m_X5_factorial (l := l) (D := D) (E := E) (T := T) (pcn (15 - sD S) - 1 - pcn a) (by have := pcn_lt ((15 - sD S)) (by omega); omega)) gX5_share_X5_factorial rfl (by decide +kernel) (by rw [hR]; exact ⟨Nat.le_of_ble_eq_true rfl, Nat.le_of_ble_eq_true rfl⟩) [] (by decide) rfl [] rfl rfl rfl rfl (Nat.le_of_ble_eq_true rfl) dX5_share_99 ⟨Nat.zero_le _, Nat.zero_le _⟩ (fun H locs hw => ?_)
          have hw : g_W D A s [(ob, .inr (5, [z0, .ref pl, .ref h, .ref kh, z4, z5, z6, z7, .ref wa, z9, z10])), (pl, .inr (1, [.ref fa, .int (nI nf), .int (nI nw), .ref xa, .ref ba, .ref pa, .ref aa, .int (jS J1_u_1), .int (jN J1_u_1), .float (jH J1_u_1)])), (fa, .inl (E 0, 18, .inl fl)), (xa, .inl (E 0, 3, .inl x)), (ba, .inl (E 0, 12, .inl (jB J1_u_1))), (pa, .inl (E 1, 4, .inr (.inr (.inl (jE J1_u_1))))), (aa, .inl (E 1, 4, .inr (.inr (.inl (jA J1_u_1))))), (h, .inr (4, [.ref hs, .ref ht, .ref hq, .int (nI (sD S)), .int (sM S), .float (sP S), .int (sI S), .int (sC S), .int (sA S), .int (sR S), .int (nI (sK S))])), (hs, .inl (E 1, 4, .inr (.inr (.inl (sF S))))), (ht, .inl (E 0, 4, .inl (sT S))), (hq, .inl (E 0, 18, .inl (sW S))), (kh, .inr (4, [.ref ks, .ref kt, .ref kq, .int (nI (sD S1_u_1)), .int (sM S1_u_1), .float (sP S1_u_1), .int (sI S1_u_1), .int (sC S1_u_1), .int (sA S1_u_1), .int (sR S1_u_1), .int (nI (sK S1_u_1))])), (ks, .inl (E 1, 4, .inr (.inr (.inl (sF S1_u_1))))), (kt, .inl (E 0, 4, .inl (sT S1_u_1))), (kq, .inl (E 0, 18, .inl (sW S1_u_1))), (wa, .inl (E 0, 16, .inl (wgP nw nf fl x S (15 - sD S) g 16)))] H locs := hw
          refine lv_imul hx hb dX5_share_102 ?_
          refine lv_aload_n hx hb dX5_share_103 rfl (lv_at hl 1 rfl) ?_
          refine g_get (TT := TX5) hc hw inX5_share_X5 0 8 2 rfl rfl (by decide) rfl rfl dX5_share_104 ?_
          refine lv_iload hx hb dX5_share_107 (lv_at hl 7 rfl) ?_
          refine lv_iconst (v := 1) hx hb dX5_share_109 (by decide) ?_
          refine lv_iload_n hx hb dX5_share_110 rfl (lv_at hl 2 rfl) ?_
          refine lv_ishl hx hb dX5_share_111 ?_
          refine lv_ior hx hb dX5_share_112 ?_
          refine g_ild hc hw 15 (dIn a i) rfl (g_in16 a (by omega) i (by omega)) hsub.2.1 (by decide) dX5_share_113 ?_
          refine W.eq (congrArg (fun z => F0 m 114 ls (.int z :: [.int ((facF (pcn a)) * (facF (pcn (15 - sD S) - 1 - pcn a))), .int (shN (15 - sD S) (pcn (15 - sD S)) i (wgV nw nf fl x S) a)])) (show ((wgP nw nf fl x S (15 - sD S) g 16) (dIn a i) : Int32) = (wgV nw nf fl x S) (dIn a i) from (wg_at g hsub.2.1 hsub.2.2))) ?_
          refine lv_aload_n hx hb dX5_share_114 rfl (lv_at hl 1 rfl) ?_
          refine g_get (TT := TX5) hc hw inX5_share_X5 0 8 2 rfl rfl (by decide) rfl rfl dX5_share_115 ?_
          refine lv_iload hx hb dX5_share_118 (lv_at hl 7 rfl) ?_
          refine g_ild hc hw 15 a rfl rfl (by omega) (by decide) dX5_share_120 ?_
          refine W.eq (congrArg (fun z => F0 m 121 ls (.int z :: [.int ((wgV nw nf fl x S) (dIn a i)), .int ((facF (pcn a)) * (facF (pcn (15 - sD S) - 1 - pcn a))), .int (shN (15 - sD S) (pcn (15 - sD S)) i (wgV nw nf fl x S) a)])) (show ((wgP nw nf fl x S (15 - sD S) g 16) a : Int32) = (wgV nw nf fl x S) a from (wg_at g (by omega) h66))) ?_
          refine lv_isub hx hb dX5_share_121 ?_
          refine lv_imul hx hb dX5_share_122 ?_
          refine lv_iadd hx hb dX5_share_123 ?_
          refine lv_istore (lv' := [(5, .int ((shN (15 - sD S) (pcn (15 - sD S)) i (wgV nw nf fl x S) a) + (((facF (pcn a)) * (facF (pcn (15 - sD S) - 1 - pcn a))) * (((wgV nw nf fl x S) (dIn a i)) - ((wgV nw nf fl x S) a))))), (7, .int (nI (pcn a))), (0, .ref ob), (1, .int (nI i)), (2, .int (b2i up)), (3, .int (nI (15 - sD S))), (4, .int (nI (pcn (15 - sD S)))), (6, .int (nI a))]) hx hb dX5_share_124 hl (by decide) rfl (fun ls hl => ?_)
          refine lv_iinc (v := nI (a + 1)) (lv' := [(6, .int (nI (a + 1))), (5, .int ((shN (15 - sD S) (pcn (15 - sD S)) i (wgV nw nf fl x S) a) + (((facF (pcn a)) * (facF (pcn (15 - sD S) - 1 - pcn a))) * (((wgV nw nf fl x S) (dIn a i)) - ((wgV nw nf fl x S) a))))), (7, .int (nI (pcn a))), (0, .ref ob), (1, .int (nI i)), (2, .int (b2i up)), (3, .int (nI (15 - sD S))), (4, .int (nI (pcn (15 - sD S))))]) hx hb dX5_share_126 hl (k := 7) rfl (n_inc1 rfl) (by decide) rfl (fun ls hl => ?_)
          refine lv_goto (tgt := 53) hx hb dX5_share_129 (by decide) ?_
          have hl := lv_conv hl 1 rfl (v' := (.int (shN (15 - sD S) (pcn (15 - sD S)) i (wgV nw nf fl x S) (a + 1)))) (by exact congrArg Value.int ((if_pos ⟨h66, h75⟩).symm))
          have hl : lv_has ls 8 [(6, .int (nI (a + 1))), (5, .int (shN (15 - sD S) (pcn (15 - sD S)) i (wgV nw nf fl x S) (a + 1))), (7, .int (nI (pcn a))), (0, .ref ob), (1, .int (nI i)), (2, .int (b2i up)), (3, .int (nI (15 - sD S))), (4, .int (nI (pcn (15 - sD S))))] := hl
          exact ih (a + 1) (by omega)   _ _ _ hw (lv_sub hl [3, 4, 5, 6, 7, 1, 0] rfl)
  have hl := lv_conv hl 1 rfl (v' := (.int (shN (15 - sD S) (pcn (15 - sD S)) i (wgV nw nf fl x S) 0))) (by rfl)
  have hl : lv_has ls 8 [(6, .int 0), (5, .int (shN (15 - sD S) (pcn (15 - sD S)) i (wgV nw nf fl x S) 0)), (4, .int (nI (pcn (15 - sD S)))), (3, .int (nI (15 - sD S))), (0, .ref ob), (1, .int (nI i)), (2, .int (b2i up))] := hl
  exact J53 16 0 (by omega)   _ _ _ hw (lv_sub hl [4, 5, 6, 3, 2, 1, 0] rfl)
end P19k
