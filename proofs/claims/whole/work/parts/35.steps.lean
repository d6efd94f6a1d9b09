/-! MY ROWS 11: a step of both, method by method -/
section GStep
theorem Inv.ex {B : Nat} {c : CS} {r : RS} (h : Inv B c r) : ∃ (tt : Nat → Nat) (len nf nw : Nat) (fl : Nat → Int32) (J : PJ) (S U : TS) (held en : Nat) (HS : Nat → TS) (sb : Nat → Int32) (V : Nat → TS) (cn : Nat) (O9 : Nat → Nat × Nat × Nat × Bool) (g : Nat → Int32) (sd : Int64) (w fl9 gra grp : Nat → Int32) (rw9 rf9 : Nat) (K : RJ) (U9 : TS) (bb : Nat → Int32) (bf : Nat → UInt32) (kp : Nat → Int32) (kf : Nat → UInt32) (kb g9 : Nat → Int32), c = (tt, len, nf, nw, fl, x3F 0 0 0, J, S, U, held, en, HS, sb, V, cn, O9, g, sd) ∧ r = (tt, len, nf, nw, fl9, gra, grp, rw9, rf9, K, wW S w, U9, bb, bf, held, kp, kf, kb, cn, (fun yy => nI (O9 yy).1), (fun yy => nI (O9 yy).2.1), (fun yy => nI (O9 yy).2.2.1), (fun yy => b2i (O9 yy).2.2.2), g9, sd) ∧ len ≤ 120 ∧ (∀ j, tt j < 256) ∧ nw ≤ 6 ∧ nf ≤ 6 ∧ agW nf fl fl9 ∧ OkS B S ∧ agW nw (sW S) w ∧ iH B nw held held en HS bb bf ∧ iV B nw sb kb V kp kf ∧ cn ≤ 6 ∧ obP O9 := by
  obtain ⟨tt, len, nf, nw, fl, x, J, S, U, held, en, HS, sb, V, cn, O9, g, sd⟩ := c
  obtain ⟨rtt, rlen, rnf, rnw, fl9, gra, grp, rw9, rf9, K, rS, U9, bb, bf, d, kp, kf, kb, rcn, ga, gb, gc, gd, g9, rsd⟩ := r
  obtain ⟨⟨t1, t2, t3, t4⟩, ⟨n1, n2, n3, n4, n5, n6⟩, ⟨s1, w, s2, s3⟩, hH, hV, ⟨o1, o2, o3, o4, o5, o6, o7⟩, hd⟩ := h
  have hH1 := hH.1
  change tt = rtt at t1
  change len = rlen at t2
  change nw = rnw at n1
  change nf = rnf at n2
  change x = _ at n6
  change rS = _ at s2
  change held = d at hH1
  change cn = rcn at o1
  change ga = _ at o4
  change gb = _ at o5
  change gc = _ at o6
  change gd = _ at o7
  change sd = rsd at hd
  subst t1 t2 n1 n2 n6 s2 hH1 o1 o4 o5 o6 o7 hd
  exact ⟨tt, len, nf, nw, fl, J, S, U, held, en, HS, sb, V, cn, O9, g, sd, w, fl9, gra, grp, rw9, rf9, K, U9, bb, bf, kp, kf, kb, g9, rfl, rfl, t3, t4, n3, n4, n5, s1, s3, hH, hV, o2, o3⟩
theorem out_n1 {v b : Int32} {n : Nat} (hb : b.toInt = n) (h : outB v 1 b = false) : ∃ j : Nat, 1 ≤ j ∧ j ≤ n ∧ v = nI j := by
  obtain ⟨h1, h2⟩ := out_ok h
  have h0 : outB v 0 b = false := decide_eq_false (fun q => q.elim (fun z => Int32.not_lt.mpr (Int32.le_trans (by decide) h1) z) (fun z => Int32.not_lt.mpr h2 z))
  obtain ⟨j, hj, rfl⟩ := out_n hb h0
  refine ⟨j, ?_, hj, rfl⟩
  rcases Nat.eq_zero_or_pos j with z | z
  · subst z
    exact absurd h1 (by decide)
  · exact z
theorem sM_w (S : TS) (w : Nat → Int32) : sM (wW S w) = sM S := rfl
theorem la_w (S : TS) (w : Nat → Int32) (k : Nat) : laF (wW S w) k = laF S k := rfl
theorem dec2 (x : Bool) : x = true ∨ x = false := by cases x <;> simp
variable {l : Launch} {D : va_G} {E : Nat → ClassId} {T : Nat → Nat} {a : Nat → Nat} {f : Nat → Nat → Nat} {b : Nat → Nat} {B : Nat} {c : CS} {r : RS}
set_option maxHeartbeats 4000000 in
theorem St_write (hi : Inv B c r) (hB : B + 400 < 2 ^ 31) (v : Int32) : gStp false l D E T a f b yX5_write wsX5_write [.int v] yX6_write wsX6_write [.int v] (B + 99) c r := by
  obtain ⟨tt, len, nf, nw, fl, J, S, U, held, en, HS, sb, V, cn, O9, g, sd, w, fl9, gra, grp, rw9, rf9, K, U9, bb, bf, kp, kf, kb, g9, rfl, rfl, hl, ht, hnw, hnf, hfl, hok, hw, hH, hV, hcn, hob⟩ := hi.ex
  rcases dec2 (outB v 0 255) with h | h
  · exact gStp.mm (C_write_out a f _ v h) (R_write_out b _ v h) rfl ⟨⟨rfl, rfl, hl, ht⟩, ⟨rfl, rfl, hnw, hnf, hfl, rfl⟩, ⟨hok.up (by omega), w, rfl, hw⟩, hH.up (by omega), hV.up (by omega), ⟨rfl, hcn, hob, rfl, rfl, rfl, rfl⟩, rfl⟩
  · obtain ⟨k, hk, rfl⟩ := out_n (n := 255) (by decide) h
    rcases (show len = 120 ∨ len < 120 by omega) with h9 | h9
    · exact gStp.mm (C_write_full a f _ k hk h9) (R_write_full b _ k hk h9) rfl ⟨⟨rfl, rfl, hl, ht⟩, ⟨rfl, rfl, hnw, hnf, hfl, rfl⟩, ⟨hok.up (by omega), w, rfl, hw⟩, hH.up (by omega), hV.up (by omega), ⟨rfl, hcn, hob, rfl, rfl, rfl, rfl⟩, rfl⟩
    · exact gStp.mm (C_write a f _ k hk h9) (R_write b _ k hk h9) rfl ⟨⟨rfl, rfl, h9, fun j => by show (if j = len then k else tt j) < 256; have := ht j; split <;> omega⟩, ⟨rfl, rfl, hnw, hnf, hfl, rfl⟩, ⟨hok.up (by omega), w, rfl, hw⟩, hH.up (by omega), hV.up (by omega), ⟨rfl, hcn, hob, rfl, rfl, rfl, rfl⟩, rfl⟩
set_option maxHeartbeats 4000000 in
theorem St_wipe (hi : Inv B c r) (hB : B + 400 < 2 ^ 31)  : gStp false l D E T a f b yX5_wipe wsX5_wipe [] yX6_wipe wsX6_wipe [] (B + 99) c r := by
  obtain ⟨tt, len, nf, nw, fl, J, S, U, held, en, HS, sb, V, cn, O9, g, sd, w, fl9, gra, grp, rw9, rf9, K, U9, bb, bf, kp, kf, kb, g9, rfl, rfl, hl, ht, hnw, hnf, hfl, hok, hw, hH, hV, hcn, hob⟩ := hi.ex
  exact gStp.mm (C_wipe a f _ ) (R_wipe b _ ) rfl ⟨⟨rfl, rfl, Nat.zero_le _, ht⟩, ⟨rfl, rfl, hnw, hnf, hfl, rfl⟩, ⟨hok.up (by omega), w, rfl, hw⟩, hH.up (by omega), hV.up (by omega), ⟨rfl, hcn, hob, rfl, rfl, rfl, rfl⟩, rfl⟩
set_option maxHeartbeats 4000000 in
theorem St_fault (hi : Inv B c r) (hB : B + 400 < 2 ^ 31)  : gStp false l D E T a f b yX5_fault wsX5_fault [] yX6_fault wsX6_fault [] (B + 99) c r := by
  obtain ⟨tt, len, nf, nw, fl, J, S, U, held, en, HS, sb, V, cn, O9, g, sd, w, fl9, gra, grp, rw9, rf9, K, U9, bb, bf, kp, kf, kb, g9, rfl, rfl, hl, ht, hnw, hnf, hfl, hok, hw, hH, hV, hcn, hob⟩ := hi.ex
  exact gStp.mm (C_fault a f _ hl ht) (R_fault b _ hl ht) rfl ⟨⟨rfl, rfl, hl, ht⟩, ⟨rfl, rfl, hnw, hnf, hfl, rfl⟩, ⟨hok.up (by omega), w, rfl, hw⟩, hH.up (by omega), hV.up (by omega), ⟨rfl, hcn, hob, rfl, rfl, rfl, rfl⟩, rfl⟩
set_option maxHeartbeats 4000000 in
theorem St_craft (hi : Inv B c r) (hB : B + 400 < 2 ^ 31)  : gStp false l D E T a f b yX5_craft wsX5_craft [] yX6_craft wsX6_craft [] (B + 99) c r := by
  obtain ⟨tt, len, nf, nw, fl, J, S, U, held, en, HS, sb, V, cn, O9, g, sd, w, fl9, gra, grp, rw9, rf9, K, U9, bb, bf, kp, kf, kb, g9, rfl, rfl, hl, ht, hnw, hnf, hfl, hok, hw, hH, hV, hcn, hob⟩ := hi.ex
  by_cases h99 : ftF tt len = -9
  · obtain ⟨hall, h6, h7⟩ := ft_9inv hl h99
    have e : len = 6 + 7 * ((len - 6) / 7) := by omega
    generalize (len - 6) / 7 = n at e
    subst e
    have hp := part_le hall (m := n) (Nat.le_refl _)
    exact gStp.mm (C_craft a f _ n rfl (by omega) ht hall h99) (R_craft b _ n hl ht rfl h99) rfl ⟨⟨rfl, rfl, hl, ht⟩, ⟨rfl, rfl, hp.2.1, hp.2.2, fl_ag tt fl gra n, rfl⟩, ⟨OkS.cft _ hall ht, wtN tt (fun _ => 0) n, rfl, wt_ag tt _ _ n⟩, (hH.up (by omega)).none, (hV.up (by omega)).none, ⟨rfl, hcn, hob, rfl, rfl, rfl, rfl⟩, rfl⟩
  · exact gStp.mm (C_craft_no a f _ hl ht h99) (R_craft_no b _ hl ht h99) rfl ⟨⟨rfl, rfl, hl, ht⟩, ⟨rfl, rfl, hnw, hnf, hfl, rfl⟩, ⟨hok.up (by omega), w, rfl, hw⟩, hH.up (by omega), hV.up (by omega), ⟨rfl, hcn, hob, rfl, rfl, rfl, rfl⟩, rfl⟩
set_option maxHeartbeats 4000000 in
theorem St_wheel (hi : Inv B c r) (hB : B + 400 < 2 ^ 31) (v x : Int32) : gStp false l D E T a f b yX5_wheel wsX5_wheel [.int v, .int x] yX6_wheel wsX6_wheel [.int v, .int x] (B + 99) c r := by
  obtain ⟨tt, len, nf, nw, fl, J, S, U, held, en, HS, sb, V, cn, O9, g, sd, w, fl9, gra, grp, rw9, rf9, K, U9, bb, bf, kp, kf, kb, g9, rfl, rfl, hl, ht, hnw, hnf, hfl, hok, hw, hH, hV, hcn, hob⟩ := hi.ex
  rcases dec2 (outB v 0 3) with h | h
  · exact gStp.mm (C_wheel_out a f _ v x h) (R_wheel_out b _ v x h) rfl ⟨⟨rfl, rfl, hl, ht⟩, ⟨rfl, rfl, hnw, hnf, hfl, rfl⟩, ⟨hok.up (by omega), w, rfl, hw⟩, hH.up (by omega), hV.up (by omega), ⟨rfl, hcn, hob, rfl, rfl, rfl, rfl⟩, rfl⟩
  · obtain ⟨n, hn, rfl⟩ := out_n (n := 3) (by decide) h
    exact gStp.mm (C_wheel a f _ n B x hn hok) (R_wheel b _ n B x hn hok) rfl ⟨⟨rfl, rfl, hl, ht⟩, ⟨rfl, rfl, hnw, hnf, hfl, rfl⟩, ⟨hok.up (by omega), w, rfl, hw⟩, hH.up (by omega), hV.up (by omega), ⟨rfl, hcn, hob, rfl, rfl, rfl, rfl⟩, rfl⟩
set_option maxHeartbeats 4000000 in
theorem St_told (hi : Inv B c r) (hB : B + 400 < 2 ^ 31) (ww : Bool) (v k : Int32) : gStp false l D E T a f b yX5_told wsX5_told [.int (b2i ww), .int v, .int k] yX6_told wsX6_told [.int (b2i ww), .int v, .int k] (B + 99) c r := by
  obtain ⟨tt, len, nf, nw, fl, J, S, U, held, en, HS, sb, V, cn, O9, g, sd, w, fl9, gra, grp, rw9, rf9, K, U9, bb, bf, kp, kf, kb, g9, rfl, rfl, hl, ht, hnw, hnf, hfl, hok, hw, hH, hV, hcn, hob⟩ := hi.ex
  by_cases h : 0 ≤ v ∧ v < nI (if ww = true then nw else nf)
  · obtain ⟨r9, hr31, rfl⟩ := nI_ex h.1
    have h6 : (if ww = true then nw else nf) ≤ 6 := by split <;> assumption
    have h1 : r9 < (if ww = true then nw else nf) := (nI_ltI hr31 (by omega)).mp h.2
    have hw1 : ww = true → r9 < nw := fun z => by rw [if_pos z] at h1; exact h1
    have hf1 : ww = false → r9 < nf := fun z => by rw [if_neg (by rw [z]; decide)] at h1; exact h1
    rcases dec2 (outB k 0 2) with h2 | h2
    · exact gStp.mm (C_told_out a f _ ww r9 k hw1 hf1 hnw hnf h2) (R_told_out b _ r9 k ww hw1 hf1 hnw hnf h2) rfl ⟨⟨rfl, rfl, hl, ht⟩, ⟨rfl, rfl, hnw, hnf, hfl, rfl⟩, ⟨hok.up (by omega), w, rfl, hw⟩, hH.up (by omega), hV.up (by omega), ⟨rfl, hcn, hob, rfl, rfl, rfl, rfl⟩, rfl⟩
    · obtain ⟨q, hq, rfl⟩ := out_n (n := 2) (by decide) h2
      exact gStp.mm (C_told a f _ ww r9 q hw1 hf1 hnw hnf hq) (R_told b _ r9 q ww hw1 hf1 hnw hnf hq) (congrArg Value.int (told_ag hw hfl hw1 hf1 hq)) ⟨⟨rfl, rfl, hl, ht⟩, ⟨rfl, rfl, hnw, hnf, hfl, rfl⟩, ⟨hok.up (by omega), w, rfl, hw⟩, hH.up (by omega), hV.up (by omega), ⟨rfl, hcn, hob, rfl, rfl, rfl, rfl⟩, rfl⟩
  · have hr : 0 ≤ v → (ww = true → ¬ v < nI nw) ∧ (ww = false → ¬ v < nI nf) := fun z => ⟨fun y q => h ⟨z, by rw [if_pos y]; exact q⟩, fun y q => h ⟨z, by rw [if_neg (by rw [y]; decide)]; exact q⟩⟩
    exact gStp.mm (C_told_row a f _ ww v k hr) (R_told_row b _ v k ww hnw hnf hr) rfl ⟨⟨rfl, rfl, hl, ht⟩, ⟨rfl, rfl, hnw, hnf, hfl, rfl⟩, ⟨hok.up (by omega), w, rfl, hw⟩, hH.up (by omega), hV.up (by omega), ⟨rfl, hcn, hob, rfl, rfl, rfl, rfl⟩, rfl⟩
set_option maxHeartbeats 4000000 in
theorem St_momentum (hi : Inv B c r) (hB : B + 400 < 2 ^ 31) (v : Int32) : gStp false l D E T a f b yX5_momentum wsX5_momentum [.int v] yX6_momentum wsX6_momentum [.int v] (B + 99) c r := by
  obtain ⟨tt, len, nf, nw, fl, J, S, U, held, en, HS, sb, V, cn, O9, g, sd, w, fl9, gra, grp, rw9, rf9, K, U9, bb, bf, kp, kf, kb, g9, rfl, rfl, hl, ht, hnw, hnf, hfl, hok, hw, hH, hV, hcn, hob⟩ := hi.ex
  rcases dec2 (outB v 0 6) with h | h
  · exact gStp.mm (C_momentum_out a f _ v h) (R_momentum_out b _ v h) rfl ⟨⟨rfl, rfl, hl, ht⟩, ⟨rfl, rfl, hnw, hnf, hfl, rfl⟩, ⟨hok.up (by omega), w, rfl, hw⟩, hH.up (by omega), hV.up (by omega), ⟨rfl, hcn, hob, rfl, rfl, rfl, rfl⟩, rfl⟩
  · obtain ⟨n, hn, rfl⟩ := out_n (n := 6) (by decide) h
    exact gStp.mm (C_momentum a f _ B n hok hn) (R_momentum b _ B n hok hn) rfl ⟨⟨rfl, rfl, hl, ht⟩, ⟨rfl, rfl, hnw, hnf, hfl, rfl⟩, ⟨hok.up (by omega), w, rfl, hw⟩, hH.up (by omega), hV.up (by omega), ⟨rfl, hcn, hob, rfl, rfl, rfl, rfl⟩, rfl⟩
set_option maxHeartbeats 4000000 in
theorem St_tick (hi : Inv B c r) (hB : B + 400 < 2 ^ 31) (v : Int32) : gStp false l D E T a f b yX5_tick wsX5_tick [.int v] yX6_tick wsX6_tick [.int v] (B + 99) c r := by
  obtain ⟨tt, len, nf, nw, fl, J, S, U, held, en, HS, sb, V, cn, O9, g, sd, w, fl9, gra, grp, rw9, rf9, K, U9, bb, bf, kp, kf, kb, g9, rfl, rfl, hl, ht, hnw, hnf, hfl, hok, hw, hH, hV, hcn, hob⟩ := hi.ex
  rcases dec2 (outB v 1 99) with h | h
  · exact gStp.mm (C_tick_out a f _ v h) (R_tick_out b _ v h) rfl ⟨⟨rfl, rfl, hl, ht⟩, ⟨rfl, rfl, hnw, hnf, hfl, rfl⟩, ⟨hok.up (by omega), w, rfl, hw⟩, hH.up (by omega), hV.up (by omega), ⟨rfl, hcn, hob, rfl, rfl, rfl, rfl⟩, rfl⟩
  · obtain ⟨n, hn1, hn, rfl⟩ := out_n1 (n := 99) (by decide) h
    exact gStp.mm (C_tick a f _ B n hok hH.2.1 hH.2.2.1 (by omega) hnw hnf hn1 hn) (R_tick b _ B n hok hH.2.1 (by omega) hnw hnf hn1 hn) (congrArg Value.int (by rw [tn_w hw hfl, sM_w])) ⟨⟨rfl, rfl, hl, ht⟩, ⟨rfl, rfl, hnw, hnf, hfl, rfl⟩, ⟨(hok.tn nw nf fl (x3F 0 0 0) n).up (by omega), w, tn_w hw hfl n, by show agW nw (sW (tkN nw nf fl (x3F 0 0 0) S n)) w; rw [tn_W]; exact hw⟩, (hH.up (by omega)).note ⟨hok.up (by omega), w, rfl, hw⟩, hV.up (by omega), ⟨rfl, hcn, hob, rfl, rfl, rfl, rfl⟩, rfl⟩
set_option maxHeartbeats 4000000 in
theorem St_kill (hi : Inv B c r) (hB : B + 400 < 2 ^ 31) (v : Int32) : gStp false l D E T a f b yX5_kill wsX5_kill [.int v] yX6_kill wsX6_kill [.int v] (B + 99) c r := by
  obtain ⟨tt, len, nf, nw, fl, J, S, U, held, en, HS, sb, V, cn, O9, g, sd, w, fl9, gra, grp, rw9, rf9, K, U9, bb, bf, kp, kf, kb, g9, rfl, rfl, hl, ht, hnw, hnf, hfl, hok, hw, hH, hV, hcn, hob⟩ := hi.ex
  rcases dec2 (outB v 0 3) with h | h
  · exact gStp.mm (C_kill_out a f _ v h) (R_kill_out b _ v h) rfl ⟨⟨rfl, rfl, hl, ht⟩, ⟨rfl, rfl, hnw, hnf, hfl, rfl⟩, ⟨hok.up (by omega), w, rfl, hw⟩, hH.up (by omega), hV.up (by omega), ⟨rfl, hcn, hob, rfl, rfl, rfl, rfl⟩, rfl⟩
  · obtain ⟨i, hi9, rfl⟩ := out_n (n := 3) (by decide) h
    rcases dec2 ((sD S).testBit i) with h2 | h2
    · exact gStp.mm (C_kill_no a f _ i hi9 hok.d h2) (R_kill_no b _ i hi9 hok.d h2) rfl ⟨⟨rfl, rfl, hl, ht⟩, ⟨rfl, rfl, hnw, hnf, hfl, rfl⟩, ⟨hok.up (by omega), w, rfl, hw⟩, hH.up (by omega), hV.up (by omega), ⟨rfl, hcn, hob, rfl, rfl, rfl, rfl⟩, rfl⟩
    · exact gStp.mm (C_kill a f _ B i hok hH.2.1 hH.2.2.1 hi9 h2) (R_kill b _ B i hok hH.2.1 hi9 h2) rfl ⟨⟨rfl, rfl, hl, ht⟩, ⟨rfl, rfl, hnw, hnf, hfl, rfl⟩, ⟨(hok.sk (show i < 4 by omega)).up (by omega), w, rfl, hw⟩, (hH.up (by omega)).note ⟨hok.up (by omega), w, rfl, hw⟩, hV.up (by omega), ⟨rfl, hcn, hob, rfl, rfl, rfl, rfl⟩, rfl⟩
set_option maxHeartbeats 4000000 in
theorem St_mend (hi : Inv B c r) (hB : B + 400 < 2 ^ 31) (v : Int32) : gStp false l D E T a f b yX5_mend wsX5_mend [.int v] yX6_mend wsX6_mend [.int v] (B + 99) c r := by
  obtain ⟨tt, len, nf, nw, fl, J, S, U, held, en, HS, sb, V, cn, O9, g, sd, w, fl9, gra, grp, rw9, rf9, K, U9, bb, bf, kp, kf, kb, g9, rfl, rfl, hl, ht, hnw, hnf, hfl, hok, hw, hH, hV, hcn, hob⟩ := hi.ex
  rcases dec2 (outB v 0 3) with h | h
  · exact gStp.mm (C_mend_out a f _ v h) (R_mend_out b _ v h) rfl ⟨⟨rfl, rfl, hl, ht⟩, ⟨rfl, rfl, hnw, hnf, hfl, rfl⟩, ⟨hok.up (by omega), w, rfl, hw⟩, hH.up (by omega), hV.up (by omega), ⟨rfl, hcn, hob, rfl, rfl, rfl, rfl⟩, rfl⟩
  · obtain ⟨i, hi9, rfl⟩ := out_n (n := 3) (by decide) h
    rcases dec2 ((sD S).testBit i) with h2 | h2
    · exact gStp.mm (C_mend a f _ B i hok hH.2.1 hH.2.2.1 hi9 h2) (R_mend b _ B i hok hH.2.1 hi9 h2) rfl ⟨⟨rfl, rfl, hl, ht⟩, ⟨rfl, rfl, hnw, hnf, hfl, rfl⟩, ⟨(hok.rv (show i < 4 by omega)).up (by omega), w, rfl, hw⟩, (hH.up (by omega)).note ⟨hok.up (by omega), w, rfl, hw⟩, hV.up (by omega), ⟨rfl, hcn, hob, rfl, rfl, rfl, rfl⟩, rfl⟩
    · exact gStp.mm (C_mend_no a f _ i hi9 hok.d h2) (R_mend_no b _ i hi9 hok.d h2) rfl ⟨⟨rfl, rfl, hl, ht⟩, ⟨rfl, rfl, hnw, hnf, hfl, rfl⟩, ⟨hok.up (by omega), w, rfl, hw⟩, hH.up (by omega), hV.up (by omega), ⟨rfl, hcn, hob, rfl, rfl, rfl, rfl⟩, rfl⟩
set_option maxHeartbeats 4000000 in
theorem St_free (hi : Inv B c r) (hB : B + 400 < 2 ^ 31)  : gStp false l D E T a f b yX5_free wsX5_free [] yX6_free wsX6_free [] (B + 99) c r := by
  obtain ⟨tt, len, nf, nw, fl, J, S, U, held, en, HS, sb, V, cn, O9, g, sd, w, fl9, gra, grp, rw9, rf9, K, U9, bb, bf, kp, kf, kb, g9, rfl, rfl, hl, ht, hnw, hnf, hfl, hok, hw, hH, hV, hcn, hob⟩ := hi.ex
  by_cases h : sM S = 1 ∧ pcn (sD S) ≤ 1
  · exact gStp.mm (C_free a f _ B hok hH.2.1 hH.2.2.1 h.1 h.2) (R_free b _ B hok hH.2.1 h.1 h.2) rfl ⟨⟨rfl, rfl, hl, ht⟩, ⟨rfl, rfl, hnw, hnf, hfl, rfl⟩, ⟨(OkS.frs hok h.2).up (by omega), w, rfl, hw⟩, (hH.up (by omega)).note ⟨hok.up (by omega), w, rfl, hw⟩, hV.up (by omega), ⟨rfl, hcn, hob, rfl, rfl, rfl, rfl⟩, rfl⟩
  · have hm : sM S = 1 → 1 < pcn (sD S) := fun z => Nat.not_le.mp (fun q => h ⟨z, q⟩)
    exact gStp.mm (C_free_no a f _ hok.d hm) (R_free_no b _ B hok hm) rfl ⟨⟨rfl, rfl, hl, ht⟩, ⟨rfl, rfl, hnw, hnf, hfl, rfl⟩, ⟨hok.up (by omega), w, rfl, hw⟩, hH.up (by omega), hV.up (by omega), ⟨rfl, hcn, hob, rfl, rfl, rfl, rfl⟩, rfl⟩
set_option maxHeartbeats 4000000 in
theorem St_set (hi : Inv B c r) (hB : B + 400 < 2 ^ 31) (v x : Int32) : gStp false l D E T a f b yX5_set wsX5_set [.int v, .int x] yX6_set wsX6_set [.int v, .int x] (B + 99) c r := by
  obtain ⟨tt, len, nf, nw, fl, J, S, U, held, en, HS, sb, V, cn, O9, g, sd, w, fl9, gra, grp, rw9, rf9, K, U9, bb, bf, kp, kf, kb, g9, rfl, rfl, hl, ht, hnw, hnf, hfl, hok, hw, hH, hV, hcn, hob⟩ := hi.ex
  rcases dec2 (outB v 0 3) with h | h
  · exact gStp.mm (C_set_out a f _ v x h) (R_set_out b _ v x h) rfl ⟨⟨rfl, rfl, hl, ht⟩, ⟨rfl, rfl, hnw, hnf, hfl, rfl⟩, ⟨hok.up (by omega), w, rfl, hw⟩, hH.up (by omega), hV.up (by omega), ⟨rfl, hcn, hob, rfl, rfl, rfl, rfl⟩, rfl⟩
  · obtain ⟨k, hk, rfl⟩ := out_n (n := 3) (by decide) h
    rcases dec2 (outB x (g_tv 3 k) (g_tv 4 k)) with h2 | h2
    · exact gStp.mm (C_set_no a f _ k x hk h2) (R_set_no b _ k x hk h2) rfl ⟨⟨rfl, rfl, hl, ht⟩, ⟨rfl, rfl, hnw, hnf, hfl, rfl⟩, ⟨hok.up (by omega), w, rfl, hw⟩, hH.up (by omega), hV.up (by omega), ⟨rfl, hcn, hob, rfl, rfl, rfl, rfl⟩, rfl⟩
    · exact gStp.mm (C_set a f _ B k x hok hH.2.1 hH.2.2.1 hk h2) (R_set b _ B k x hok hH.2.1 hk h2) rfl ⟨⟨rfl, rfl, hl, ht⟩, ⟨rfl, rfl, hnw, hnf, hfl, rfl⟩, ⟨(OkS.sts hok hk h2).up (by omega), w, rfl, hw⟩, (hH.up (by omega)).note ⟨hok.up (by omega), w, rfl, hw⟩, hV.up (by omega), ⟨rfl, hcn, hob, rfl, rfl, rfl, rfl⟩, rfl⟩
set_option maxHeartbeats 4000000 in
theorem St_want (hi : Inv B c r) (hB : B + 400 < 2 ^ 31) (v x y z : Int32) : gStp false l D E T a f b yX5_want wsX5_want [.int v, .int x, .int y, .int z] yX6_want wsX6_want [.int v, .int x, .int y, .int z] (B + 99) c r := by
  obtain ⟨tt, len, nf, nw, fl, J, S, U, held, en, HS, sb, V, cn, O9, g, sd, w, fl9, gra, grp, rw9, rf9, K, U9, bb, bf, kp, kf, kb, g9, rfl, rfl, hl, ht, hnw, hnf, hfl, hok, hw, hH, hV, hcn, hob⟩ := hi.ex
  by_cases h : 0 ≤ v ∧ v < nI nw
  · obtain ⟨r9, hr31, rfl⟩ := nI_ex h.1
    have h1 : r9 < nw := (nI_ltI hr31 (by omega)).mp h.2
    by_cases h2 : outB x (-9) 9 = false ∧ outB y (-9) 9 = false ∧ outB z (-9) 9 = false
    · exact gStp.mm (C_want a f _ r9 B x y z hok hH.2.1 hH.2.2.1 h1 hnw h2.1 h2.2.1 h2.2.2) (R_want b _ r9 B x y z hok hH.2.1 h1 hnw h2.1 h2.2.1 h2.2.2) (congrArg Value.int (hw _ (by omega))) ⟨⟨rfl, rfl, hl, ht⟩, ⟨rfl, rfl, hnw, hnf, hfl, rfl⟩, ⟨hok.up (by omega), upd (upd (upd w (r9 * 3) x) (r9 * 3 + 1) y) (r9 * 3 + 2) z, rfl, agW.upd (agW.upd (agW.upd hw _ _) _ _) _ _⟩, (hH.up (by omega)).note ⟨hok.up (by omega), w, rfl, hw⟩, hV.up (by omega), ⟨rfl, hcn, hob, rfl, rfl, rfl, rfl⟩, rfl⟩
    · have h3 : outB x (-9) 9 = false → outB y (-9) 9 = false → outB z (-9) 9 = true := fun p q => (dec2 (outB z (-9) 9)).elim id (fun s => absurd ⟨p, q, s⟩ h2)
      exact gStp.mm (C_want_out a f _ r9 x y z h1 hnw h3) (R_want_out b _ r9 x y z h1 hnw h3) rfl ⟨⟨rfl, rfl, hl, ht⟩, ⟨rfl, rfl, hnw, hnf, hfl, rfl⟩, ⟨hok.up (by omega), w, rfl, hw⟩, hH.up (by omega), hV.up (by omega), ⟨rfl, hcn, hob, rfl, rfl, rfl, rfl⟩, rfl⟩
  · have hr : 0 ≤ v → ¬ v < nI nw := fun p q => h ⟨p, q⟩
    exact gStp.mm (C_want_row a f _ v x y z hr) (R_want_row b _ v x y z hnw hr) rfl ⟨⟨rfl, rfl, hl, ht⟩, ⟨rfl, rfl, hnw, hnf, hfl, rfl⟩, ⟨hok.up (by omega), w, rfl, hw⟩, hH.up (by omega), hV.up (by omega), ⟨rfl, hcn, hob, rfl, rfl, rfl, rfl⟩, rfl⟩
set_option maxHeartbeats 4000000 in
theorem St_undo (hi : Inv B c r) (hB : B + 400 < 2 ^ 31)  : gStp false l D E T a f b yX5_undo wsX5_undo [] yX6_undo wsX6_undo [] (B + 99) c r := by
  obtain ⟨tt, len, nf, nw, fl, J, S, U, held, en, HS, sb, V, cn, O9, g, sd, w, fl9, gra, grp, rw9, rf9, K, U9, bb, bf, kp, kf, kb, g9, rfl, rfl, hl, ht, hnw, hnf, hfl, hok, hw, hH, hV, hcn, hob⟩ := hi.ex
  rcases Nat.eq_zero_or_pos held with h | h
  · subst h
    exact gStp.mm (C_undo_none a f ((tt, len, nf, nw, fl, x3F 0 0 0, J, S, U, 0, en, HS, sb, V, cn, O9, g, sd) : CS)) (R_undo_none b ((tt, len, nf, nw, fl9, gra, grp, rw9, rf9, K, wW S w, U9, bb, bf, 0, kp, kf, kb, cn, (fun yy => nI (O9 yy).1), (fun yy => nI (O9 yy).2.1), (fun yy => nI (O9 yy).2.2.1), (fun yy => b2i (O9 yy).2.2.2), g9, sd) : RS)) rfl ⟨⟨rfl, rfl, hl, ht⟩, ⟨rfl, rfl, hnw, hnf, hfl, rfl⟩, ⟨hok.up (by omega), w, rfl, hw⟩, hH.up (by omega), hV.up (by omega), ⟨rfl, hcn, hob, rfl, rfl, rfl, rfl⟩, rfl⟩
  · obtain ⟨e9, rfl⟩ : ∃ e9, held = e9 + 1 := ⟨held - 1, by omega⟩
    have hL := hH.2.1
    have hE := hH.2.2.1
    obtain ⟨w2, q1, q2, q3⟩ := hH.2.2.2.2 e9 (by omega)
    have e : (en + 14 - (e9 + 1) + e9) % 14 = (en + 13) % 14 := by omega
    rw [e] at q1 q2 q3
    exact gStp.mm (C_undo a f ((tt, len, nf, nw, fl, x3F 0 0 0, J, S, U, e9 + 1, en, HS, sb, V, cn, O9, g, sd) : CS) B e9 (by omega) hE) (R_undo b ((tt, len, nf, nw, fl9, gra, grp, rw9, rf9, K, wW S w, U9, bb, bf, e9 + 1, kp, kf, kb, cn, (fun yy => nI (O9 yy).1), (fun yy => nI (O9 yy).2.1), (fun yy => nI (O9 yy).2.2.1), (fun yy => b2i (O9 yy).2.2.2), g9, sd) : RS) (wW (HS ((en + 13) % 14)) w2) e9 (by omega) q2 q3) rfl ⟨⟨rfl, rfl, hl, ht⟩, ⟨rfl, rfl, hnw, hnf, hfl, rfl⟩, ⟨(hH.2.2.2.1 _ (Nat.mod_lt _ (by decide))).up (by omega), w2, rfl, q1⟩, (hH.up (by omega)).undo, hV.up (by omega), ⟨rfl, hcn, hob, rfl, rfl, rfl, rfl⟩, rfl⟩
set_option maxHeartbeats 4000000 in
theorem St_plan (hi : Inv B c r) (hB : B + 400 < 2 ^ 31) (v : Int32) : gStp false l D E T a f b yX5_plan wsX5_plan [.int v] yX6_plan wsX6_plan [.int v] (B + 99) c r := by
  obtain ⟨tt, len, nf, nw, fl, J, S, U, held, en, HS, sb, V, cn, O9, g, sd, w, fl9, gra, grp, rw9, rf9, K, U9, bb, bf, kp, kf, kb, g9, rfl, rfl, hl, ht, hnw, hnf, hfl, hok, hw, hH, hV, hcn, hob⟩ := hi.ex
  rcases dec2 (outB v 0 3) with h | h
  · exact gStp.mm (C_plan_out a f _ v h) (R_plan_out b _ v h) rfl ⟨⟨rfl, rfl, hl, ht⟩, ⟨rfl, rfl, hnw, hnf, hfl, rfl⟩, ⟨hok.up (by omega), w, rfl, hw⟩, hH.up (by omega), hV.up (by omega), ⟨rfl, hcn, hob, rfl, rfl, rfl, rfl⟩, rfl⟩
  · obtain ⟨k, hk, rfl⟩ := out_n (n := 3) (by decide) h
    by_cases m9 : sM S = 1
    · exact gStp.mm (C_plan_safe a f _ k hk m9) (R_plan_safe b _ k hk m9) rfl ⟨⟨rfl, rfl, hl, ht⟩, ⟨rfl, rfl, hnw, hnf, hfl, rfl⟩, ⟨hok.up (by omega), w, rfl, hw⟩, hH.up (by omega), hV.up (by omega), ⟨rfl, hcn, hob, rfl, rfl, rfl, rfl⟩, rfl⟩
    · exact gStp.mm (C_plan a f _ B k hok (by omega) hnw hk m9) (R_plan b _ B k hok (by omega) hnw hnf hk m9) (congrArg Value.int (pl_w hw k)) ⟨⟨rfl, rfl, hl, ht⟩, ⟨rfl, rfl, hnw, hnf, hfl, rfl⟩, ⟨hok.up (by omega), w, rfl, hw⟩, hH.up (by omega), hV.up (by omega), ⟨rfl, hcn, hob, rfl, rfl, rfl, rfl⟩, rfl⟩
set_option maxHeartbeats 4000000 in
theorem St_next (hi : Inv B c r) (hB : B + 400 < 2 ^ 31) (v : Int32) : gStp false l D E T a f b yX5_next wsX5_next [.int v] yX6_next wsX6_next [.int v] (B + 99) c r := by
  obtain ⟨tt, len, nf, nw, fl, J, S, U, held, en, HS, sb, V, cn, O9, g, sd, w, fl9, gra, grp, rw9, rf9, K, U9, bb, bf, kp, kf, kb, g9, rfl, rfl, hl, ht, hnw, hnf, hfl, hok, hw, hH, hV, hcn, hob⟩ := hi.ex
  rcases dec2 (outB v 0 3) with h | h
  · exact gStp.mm (C_next_out a f _ v h) (R_next_out b _ v h) rfl ⟨⟨rfl, rfl, hl, ht⟩, ⟨rfl, rfl, hnw, hnf, hfl, rfl⟩, ⟨hok.up (by omega), w, rfl, hw⟩, hH.up (by omega), hV.up (by omega), ⟨rfl, hcn, hob, rfl, rfl, rfl, rfl⟩, rfl⟩
  · obtain ⟨k, hk, rfl⟩ := out_n (n := 3) (by decide) h
    by_cases m9 : sM S = 1
    · exact gStp.mm (C_next_safe a f _ k hk m9) (R_next_safe b _ k hk m9) rfl ⟨⟨rfl, rfl, hl, ht⟩, ⟨rfl, rfl, hnw, hnf, hfl, rfl⟩, ⟨hok.up (by omega), w, rfl, hw⟩, hH.up (by omega), hV.up (by omega), ⟨rfl, hcn, hob, rfl, rfl, rfl, rfl⟩, rfl⟩
    · exact gStp.mm (C_next a f _ B k hok (by omega) hnw hk m9) (R_next b _ B k hok (by omega) hnw hnf hk m9) (congrArg Value.int (congrArg bitI (ne_w hw k))) ⟨⟨rfl, rfl, hl, ht⟩, ⟨rfl, rfl, hnw, hnf, hfl, rfl⟩, ⟨hok.up (by omega), w, rfl, hw⟩, hH.up (by omega), hV.up (by omega), ⟨rfl, hcn, hob, rfl, rfl, rfl, rfl⟩, rfl⟩
set_option maxHeartbeats 4000000 in
theorem St_ahead (hi : Inv B c r) (hB : B + 400 < 2 ^ 31) (v x : Int32) : gStp false l D E T a f b yX5_ahead wsX5_ahead [.int v, .int x] yX6_ahead wsX6_ahead [.int v, .int x] (B + 99) c r := by
  obtain ⟨tt, len, nf, nw, fl, J, S, U, held, en, HS, sb, V, cn, O9, g, sd, w, fl9, gra, grp, rw9, rf9, K, U9, bb, bf, kp, kf, kb, g9, rfl, rfl, hl, ht, hnw, hnf, hfl, hok, hw, hH, hV, hcn, hob⟩ := hi.ex
  rcases dec2 (outB v 0 99) with h | h
  · exact gStp.mm (C_ahead_out a f _ v x h) (R_ahead_out b _ v x h) rfl ⟨⟨rfl, rfl, hl, ht⟩, ⟨rfl, rfl, hnw, hnf, hfl, rfl⟩, ⟨hok.up (by omega), w, rfl, hw⟩, hH.up (by omega), hV.up (by omega), ⟨rfl, hcn, hob, rfl, rfl, rfl, rfl⟩, rfl⟩
  · obtain ⟨n, hn, rfl⟩ := out_n (n := 99) (by decide) h
    rcases dec2 (outB x 0 3) with h2 | h2
    · exact gStp.mm (C_ahead_wheel a f _ n x hn h2) (R_ahead_wheel b _ n x hn h2) rfl ⟨⟨rfl, rfl, hl, ht⟩, ⟨rfl, rfl, hnw, hnf, hfl, rfl⟩, ⟨hok.up (by omega), w, rfl, hw⟩, hH.up (by omega), hV.up (by omega), ⟨rfl, hcn, hob, rfl, rfl, rfl, rfl⟩, rfl⟩
    · obtain ⟨k, hk, rfl⟩ := out_n (n := 3) (by decide) h2
      exact gStp.mm (C_ahead a f _ B n k hok (by omega) hnw hnf hn hk) (R_ahead b _ B n k hok (by omega) hnw hnf hn hk) (congrArg Value.int (by rw [tn_w hw hfl, sF_w])) ⟨⟨rfl, rfl, hl, ht⟩, ⟨rfl, rfl, hnw, hnf, hfl, rfl⟩, ⟨hok.up (by omega), w, rfl, hw⟩, hH.up (by omega), hV.up (by omega), ⟨rfl, hcn, hob, rfl, rfl, rfl, rfl⟩, rfl⟩
set_option maxHeartbeats 4000000 in
theorem St_later (hi : Inv B c r) (hB : B + 400 < 2 ^ 31) (v x : Int32) : gStp false l D E T a f b yX5_later wsX5_later [.int v, .int x] yX6_later wsX6_later [.int v, .int x] (B + 99) c r := by
  obtain ⟨tt, len, nf, nw, fl, J, S, U, held, en, HS, sb, V, cn, O9, g, sd, w, fl9, gra, grp, rw9, rf9, K, U9, bb, bf, kp, kf, kb, g9, rfl, rfl, hl, ht, hnw, hnf, hfl, hok, hw, hH, hV, hcn, hob⟩ := hi.ex
  rcases dec2 (outB v 0 99) with h | h
  · exact gStp.mm (C_later_out a f _ v x h) (R_later_out b _ v x h) rfl ⟨⟨rfl, rfl, hl, ht⟩, ⟨rfl, rfl, hnw, hnf, hfl, rfl⟩, ⟨hok.up (by omega), w, rfl, hw⟩, hH.up (by omega), hV.up (by omega), ⟨rfl, hcn, hob, rfl, rfl, rfl, rfl⟩, rfl⟩
  · obtain ⟨n, hn, rfl⟩ := out_n (n := 99) (by decide) h
    rcases dec2 (outB x 0 4) with h2 | h2
    · exact gStp.mm (C_later_what a f _ n x hn h2) (R_later_what b _ n x hn h2) rfl ⟨⟨rfl, rfl, hl, ht⟩, ⟨rfl, rfl, hnw, hnf, hfl, rfl⟩, ⟨hok.up (by omega), w, rfl, hw⟩, hH.up (by omega), hV.up (by omega), ⟨rfl, hcn, hob, rfl, rfl, rfl, rfl⟩, rfl⟩
    · obtain ⟨k, hk, rfl⟩ := out_n (n := 4) (by decide) h2
      exact gStp.mm (C_later a f _ B n k hok (by omega) hnw hnf hn hk) (R_later b _ B n k hok (by omega) hnw hnf hn hk) (congrArg Value.int (by rw [tn_w hw hfl, la_w])) ⟨⟨rfl, rfl, hl, ht⟩, ⟨rfl, rfl, hnw, hnf, hfl, rfl⟩, ⟨hok.up (by omega), w, rfl, hw⟩, hH.up (by omega), hV.up (by omega), ⟨rfl, hcn, hob, rfl, rfl, rfl, rfl⟩, rfl⟩
set_option maxHeartbeats 4000000 in
theorem St_spun (hi : Inv B c r) (hB : B + 400 < 2 ^ 31)  : gStp false l D E T a f b yX5_spun wsX5_spun [] yX6_spun wsX6_spun [] (B + 99) c r := by
  obtain ⟨tt, len, nf, nw, fl, J, S, U, held, en, HS, sb, V, cn, O9, g, sd, w, fl9, gra, grp, rw9, rf9, K, U9, bb, bf, kp, kf, kb, g9, rfl, rfl, hl, ht, hnw, hnf, hfl, hok, hw, hH, hV, hcn, hob⟩ := hi.ex
  exact gStp.ee (C_spun a f _ B hok (by omega) hnw hnf) (R_spun b _ B hok (by omega) hnw hnf) (congrArg Value.int (by rw [sp_w hw hfl])) (fun u v => ⟨⟨rfl, rfl, hl, ht⟩, ⟨rfl, rfl, hnw, hnf, hfl, rfl⟩, ⟨hok.up (by omega), w, rfl, hw⟩, hH.up (by omega), hV.up (by omega), ⟨rfl, hcn, hob, rfl, rfl, rfl, rfl⟩, rfl⟩)
set_option maxHeartbeats 4000000 in
theorem St_dumps (hi : Inv B c r) (hB : B + 400 < 2 ^ 31)  : gStp false l D E T a f b yX5_dumps wsX5_dumps [] yX6_dumps wsX6_dumps [] (B + 99) c r := by
  obtain ⟨tt, len, nf, nw, fl, J, S, U, held, en, HS, sb, V, cn, O9, g, sd, w, fl9, gra, grp, rw9, rf9, K, U9, bb, bf, kp, kf, kb, g9, rfl, rfl, hl, ht, hnw, hnf, hfl, hok, hw, hH, hV, hcn, hob⟩ := hi.ex
  exact gStp.ee (C_dumps a f _ B hok (by omega) hnw hnf) (R_dumps b _ B hok (by omega) hnw hnf) (congrArg Value.int (by rw [du_w hw hfl])) (fun u v => ⟨⟨rfl, rfl, hl, ht⟩, ⟨rfl, rfl, hnw, hnf, hfl, rfl⟩, ⟨hok.up (by omega), w, rfl, hw⟩, hH.up (by omega), hV.up (by omega), ⟨rfl, hcn, hob, rfl, rfl, rfl, rfl⟩, rfl⟩)
set_option maxHeartbeats 4000000 in
theorem St_worst (hi : Inv B c r) (hB : B + 400 < 2 ^ 31)  : gStp false l D E T a f b yX5_worst wsX5_worst [] yX6_worst wsX6_worst [] (B + 99) c r := by
  obtain ⟨tt, len, nf, nw, fl, J, S, U, held, en, HS, sb, V, cn, O9, g, sd, w, fl9, gra, grp, rw9, rf9, K, U9, bb, bf, kp, kf, kb, g9, rfl, rfl, hl, ht, hnw, hnf, hfl, hok, hw, hH, hV, hcn, hob⟩ := hi.ex
  exact gStp.ee (C_worst a f _ B hok (by omega) hnw hnf) (R_worst b _ B hok (by omega) hnw hnf) (congrArg Value.int (wo_eq hok hw hfl)) (fun u v => ⟨⟨rfl, rfl, hl, ht⟩, ⟨rfl, rfl, hnw, hnf, hfl, rfl⟩, ⟨hok.up (by omega), w, rfl, hw⟩, hH.up (by omega), hV.up (by omega), ⟨rfl, hcn, hob, rfl, rfl, rfl, rfl⟩, rfl⟩)
set_option maxHeartbeats 4000000 in
theorem St_which (hi : Inv B c r) (hB : B + 400 < 2 ^ 31)  : gStp false l D E T a f b yX5_which wsX5_which [] yX6_which wsX6_which [] (B + 99) c r := by
  obtain ⟨tt, len, nf, nw, fl, J, S, U, held, en, HS, sb, V, cn, O9, g, sd, w, fl9, gra, grp, rw9, rf9, K, U9, bb, bf, kp, kf, kb, g9, rfl, rfl, hl, ht, hnw, hnf, hfl, hok, hw, hH, hV, hcn, hob⟩ := hi.ex
  exact gStp.ee (C_which a f _ B hok (by omega) hnw hnf hcn hob) (R_which b ((tt, len, nf, nw, fl9, gra, grp, rw9, rf9, K, wW S w, U9, bb, bf, held, kp, kf, kb, cn, (fun yy => nI (O9 yy).1), (fun yy => nI (O9 yy).2.1), (fun yy => nI (O9 yy).2.2.1), (fun yy => b2i (O9 yy).2.2.2), g9, sd) : RS) B O9 hok (by omega) hnw hnf hcn hob) (congrArg Value.int (wc_w hw hfl O9 cn 4)) (fun u v => ⟨⟨rfl, rfl, hl, ht⟩, ⟨rfl, rfl, hnw, hnf, hfl, rfl⟩, ⟨hok.up (by omega), w, rfl, hw⟩, hH.up (by omega), hV.up (by omega), ⟨rfl, hcn, hob, rfl, rfl, rfl, rfl⟩, rfl⟩)
set_option maxHeartbeats 4000000 in
theorem St_judge (hi : Inv B c r) (hB : B + 400 < 2 ^ 31) (v : Int32) (x : Int64) : gStp false l D E T a f b yX5_judge wsX5_judge [.int v, .long x] yX6_judge wsX6_judge [.int v, .long x] (B + 99) c r := by
  obtain ⟨tt, len, nf, nw, fl, J, S, U, held, en, HS, sb, V, cn, O9, g, sd, w, fl9, gra, grp, rw9, rf9, K, U9, bb, bf, kp, kf, kb, g9, rfl, rfl, hl, ht, hnw, hnf, hfl, hok, hw, hH, hV, hcn, hob⟩ := hi.ex
  rcases dec2 (outB v 1 3) with h | h
  · exact gStp.mm (C_judge_out a f _ v x h) (R_judge_out b _ v x h) rfl ⟨⟨rfl, rfl, hl, ht⟩, ⟨rfl, rfl, hnw, hnf, hfl, rfl⟩, ⟨hok.up (by omega), w, rfl, hw⟩, hH.up (by omega), hV.up (by omega), ⟨rfl, hcn, hob, rfl, rfl, rfl, rfl⟩, rfl⟩
  · obtain ⟨n, hn1, hn, rfl⟩ := out_n1 (n := 3) (by decide) h
    by_cases h2 : ¬ lg_cmp x 0 < 0 ∧ lg_cmp x (rwF n) < 0
    · obtain ⟨r9, hr9, rfl⟩ := row_n hn1 hn h2.1 h2.2
      exact gStp.ee (C_judge a f _ B n r9 hok (by omega) hnw hnf hn1 hn h2.1 h2.2 hr9) (R_judge b _ B n r9 hok (by omega) hnw hnf hn1 hn h2.1 h2.2 hr9) (congrArg Value.int (by rw [jdB_w hw hfl])) (fun u v => ⟨⟨rfl, rfl, hl, ht⟩, ⟨rfl, rfl, hnw, hnf, hfl, rfl⟩, ⟨hok.up (by omega), w, rfl, hw⟩, hH.up (by omega), hV.up (by omega), ⟨rfl, hcn, hob, rfl, rfl, rfl, rfl⟩, rfl⟩)
    · have h3 : lg_cmp x 0 < 0 ∨ ¬ lg_cmp x (rwF n) < 0 := by
        by_cases p : lg_cmp x 0 < 0
        · exact Or.inl p
        · exact Or.inr (fun q => h2 ⟨p, q⟩)
      exact gStp.mm (C_judge_row a f _ n x hn1 hn h3) (R_judge_row b _ n x hn1 hn h3) rfl ⟨⟨rfl, rfl, hl, ht⟩, ⟨rfl, rfl, hnw, hnf, hfl, rfl⟩, ⟨hok.up (by omega), w, rfl, hw⟩, hH.up (by omega), hV.up (by omega), ⟨rfl, hcn, hob, rfl, rfl, rfl, rfl⟩, rfl⟩
set_option maxHeartbeats 4000000 in
theorem St_see (hi : Inv B c r) (hB : B + 400 < 2 ^ 31) (n x v u : Int32) : gStp false l D E T a f b yX5_see wsX5_see [.int n, .int x, .int v, .int u] yX6_see wsX6_see [.int n, .int x, .int v, .int u] (B + 99) c r := by
  obtain ⟨tt, len, nf, nw, fl, J, S, U, held, en, HS, sb, V, cn, O9, g, sd, w, fl9, gra, grp, rw9, rf9, K, U9, bb, bf, kp, kf, kb, g9, rfl, rfl, hl, ht, hnw, hnf, hfl, hok, hw, hH, hV, hcn, hob⟩ := hi.ex
  rcases dec2 (outB n 0 9) with h1 | h1
  · exact gStp.mm (C_see_1 a f _ n x v u h1) (R_see_1 b _ n x v u h1) rfl ⟨⟨rfl, rfl, hl, ht⟩, ⟨rfl, rfl, hnw, hnf, hfl, rfl⟩, ⟨hok.up (by omega), w, rfl, hw⟩, hH.up (by omega), hV.up (by omega), ⟨rfl, hcn, hob, rfl, rfl, rfl, rfl⟩, rfl⟩
  · rcases dec2 (outB x 0 2) with h2 | h2
    · exact gStp.mm (C_see_2 a f _ n x v u h1 h2) (R_see_2 b _ n x v u h1 h2) rfl ⟨⟨rfl, rfl, hl, ht⟩, ⟨rfl, rfl, hnw, hnf, hfl, rfl⟩, ⟨hok.up (by omega), w, rfl, hw⟩, hH.up (by omega), hV.up (by omega), ⟨rfl, hcn, hob, rfl, rfl, rfl, rfl⟩, rfl⟩
    · obtain ⟨k, hk, rfl⟩ := out_n (n := 2) (by decide) h2
      have hg9 : grN k ≤ 99 := grN_le hk
      by_cases h3 : outB v 0 (nI (grN k)) = false ∧ outB u 0 1 = false
      · obtain ⟨j, hj, rfl⟩ := out_n (n := 9) (by decide) h1
        obtain ⟨q, hq, rfl⟩ := out_n (n := grN k) (nI_ti (by omega)) h3.1
        obtain ⟨s, hs, rfl⟩ := out_n (n := 1) (by decide) h3.2
        have hO9 : ∀ p, obP (fun i => if i = p then (j, k, q, decide (nI s = 1)) else O9 i) := fun p => obP.upd hob hj hk (Nat.le_trans hq hg9) (fun z => by subst z; have : q ≤ 3 := hq; omega)
        rcases (show cn = 6 ∨ cn < 6 by omega) with h4 | h4
        · exact gStp.mm (C_see_full a f _ j k q s hj hk hq hg9 hs h4) (R_see_full b _ j k q s hj hk hq hg9 hs h4) rfl ⟨⟨rfl, rfl, hl, ht⟩, ⟨rfl, rfl, hnw, hnf, hfl, rfl⟩, ⟨hok.up (by omega), w, rfl, hw⟩, hH.up (by omega), hV.up (by omega), ⟨rfl, hcn, hob, rfl, rfl, rfl, rfl⟩, rfl⟩
        · rcases (show cn = 0 ∨ cn = 1 ∨ cn = 2 ∨ cn = 3 ∨ cn = 4 ∨ cn = 5 by omega) with rfl | rfl | rfl | rfl | rfl | rfl
          · exact gStp.mm (C_see_ok0 a f ((tt, len, nf, nw, fl, x3F 0 0 0, J, S, U, held, en, HS, sb, V, 0, O9, g, sd) : CS) j k q s hj hk hq hg9 hs) (R_see b ((tt, len, nf, nw, fl9, gra, grp, rw9, rf9, K, wW S w, U9, bb, bf, held, kp, kf, kb, 0, (fun yy => nI (O9 yy).1), (fun yy => nI (O9 yy).2.1), (fun yy => nI (O9 yy).2.2.1), (fun yy => b2i (O9 yy).2.2.2), g9, sd) : RS) j k q s hj hk hq hg9 hs h4) rfl ⟨⟨rfl, rfl, hl, ht⟩, ⟨rfl, rfl, hnw, hnf, hfl, rfl⟩, ⟨hok.up (by omega), w, rfl, hw⟩, hH.up (by omega), hV.up (by omega), ⟨rfl, (by decide : 0 + 1 ≤ 6), hO9 0, o9_1 _, o9_2 _, o9_3 _, o9_4 hs⟩, rfl⟩
          · exact gStp.mm (C_see_ok1 a f ((tt, len, nf, nw, fl, x3F 0 0 0, J, S, U, held, en, HS, sb, V, 1, O9, g, sd) : CS) j k q s hj hk hq hg9 hs) (R_see b ((tt, len, nf, nw, fl9, gra, grp, rw9, rf9, K, wW S w, U9, bb, bf, held, kp, kf, kb, 1, (fun yy => nI (O9 yy).1), (fun yy => nI (O9 yy).2.1), (fun yy => nI (O9 yy).2.2.1), (fun yy => b2i (O9 yy).2.2.2), g9, sd) : RS) j k q s hj hk hq hg9 hs h4) rfl ⟨⟨rfl, rfl, hl, ht⟩, ⟨rfl, rfl, hnw, hnf, hfl, rfl⟩, ⟨hok.up (by omega), w, rfl, hw⟩, hH.up (by omega), hV.up (by omega), ⟨rfl, (by decide : 1 + 1 ≤ 6), hO9 1, o9_1 _, o9_2 _, o9_3 _, o9_4 hs⟩, rfl⟩
          · exact gStp.mm (C_see_ok2 a f ((tt, len, nf, nw, fl, x3F 0 0 0, J, S, U, held, en, HS, sb, V, 2, O9, g, sd) : CS) j k q s hj hk hq hg9 hs) (R_see b ((tt, len, nf, nw, fl9, gra, grp, rw9, rf9, K, wW S w, U9, bb, bf, held, kp, kf, kb, 2, (fun yy => nI (O9 yy).1), (fun yy => nI (O9 yy).2.1), (fun yy => nI (O9 yy).2.2.1), (fun yy => b2i (O9 yy).2.2.2), g9, sd) : RS) j k q s hj hk hq hg9 hs h4) rfl ⟨⟨rfl, rfl, hl, ht⟩, ⟨rfl, rfl, hnw, hnf, hfl, rfl⟩, ⟨hok.up (by omega), w, rfl, hw⟩, hH.up (by omega), hV.up (by omega), ⟨rfl, (by decide : 2 + 1 ≤ 6), hO9 2, o9_1 _, o9_2 _, o9_3 _, o9_4 hs⟩, rfl⟩
          · exact gStp.mm (C_see_ok3 a f ((tt, len, nf, nw, fl, x3F 0 0 0, J, S, U, held, en, HS, sb, V, 3, O9, g, sd) : CS) j k q s hj hk hq hg9 hs) (R_see b ((tt, len, nf, nw, fl9, gra, grp, rw9, rf9, K, wW S w, U9, bb, bf, held, kp, kf, kb, 3, (fun yy => nI (O9 yy).1), (fun yy => nI (O9 yy).2.1), (fun yy => nI (O9 yy).2.2.1), (fun yy => b2i (O9 yy).2.2.2), g9, sd) : RS) j k q s hj hk hq hg9 hs h4) rfl ⟨⟨rfl, rfl, hl, ht⟩, ⟨rfl, rfl, hnw, hnf, hfl, rfl⟩, ⟨hok.up (by omega), w, rfl, hw⟩, hH.up (by omega), hV.up (by omega), ⟨rfl, (by decide : 3 + 1 ≤ 6), hO9 3, o9_1 _, o9_2 _, o9_3 _, o9_4 hs⟩, rfl⟩
          · exact gStp.mm (C_see_ok4 a f ((tt, len, nf, nw, fl, x3F 0 0 0, J, S, U, held, en, HS, sb, V, 4, O9, g, sd) : CS) j k q s hj hk hq hg9 hs) (R_see b ((tt, len, nf, nw, fl9, gra, grp, rw9, rf9, K, wW S w, U9, bb, bf, held, kp, kf, kb, 4, (fun yy => nI (O9 yy).1), (fun yy => nI (O9 yy).2.1), (fun yy => nI (O9 yy).2.2.1), (fun yy => b2i (O9 yy).2.2.2), g9, sd) : RS) j k q s hj hk hq hg9 hs h4) rfl ⟨⟨rfl, rfl, hl, ht⟩, ⟨rfl, rfl, hnw, hnf, hfl, rfl⟩, ⟨hok.up (by omega), w, rfl, hw⟩, hH.up (by omega), hV.up (by omega), ⟨rfl, (by decide : 4 + 1 ≤ 6), hO9 4, o9_1 _, o9_2 _, o9_3 _, o9_4 hs⟩, rfl⟩
          · exact gStp.mm (C_see_ok5 a f ((tt, len, nf, nw, fl, x3F 0 0 0, J, S, U, held, en, HS, sb, V, 5, O9, g, sd) : CS) j k q s hj hk hq hg9 hs) (R_see b ((tt, len, nf, nw, fl9, gra, grp, rw9, rf9, K, wW S w, U9, bb, bf, held, kp, kf, kb, 5, (fun yy => nI (O9 yy).1), (fun yy => nI (O9 yy).2.1), (fun yy => nI (O9 yy).2.2.1), (fun yy => b2i (O9 yy).2.2.2), g9, sd) : RS) j k q s hj hk hq hg9 hs h4) rfl ⟨⟨rfl, rfl, hl, ht⟩, ⟨rfl, rfl, hnw, hnf, hfl, rfl⟩, ⟨hok.up (by omega), w, rfl, hw⟩, hH.up (by omega), hV.up (by omega), ⟨rfl, (by decide : 5 + 1 ≤ 6), hO9 5, o9_1 _, o9_2 _, o9_3 _, o9_4 hs⟩, rfl⟩
      · have h4 : outB v 0 (nI (grN k)) = false → outB u 0 1 = true := fun p => (dec2 (outB u 0 1)).elim id (fun z => absurd ⟨p, z⟩ h3)
        exact gStp.mm (C_see_3 a f _ k n v u h1 hk h4) (R_see_3 b _ k n v u h1 hk h4) rfl ⟨⟨rfl, rfl, hl, ht⟩, ⟨rfl, rfl, hnw, hnf, hfl, rfl⟩, ⟨hok.up (by omega), w, rfl, hw⟩, hH.up (by omega), hV.up (by omega), ⟨rfl, hcn, hob, rfl, rfl, rfl, rfl⟩, rfl⟩
set_option maxHeartbeats 4000000 in
theorem St_unsee (hi : Inv B c r) (hB : B + 400 < 2 ^ 31)  : gStp false l D E T a f b yX5_unsee wsX5_unsee [] yX6_unsee wsX6_unsee [] (B + 99) c r := by
  obtain ⟨tt, len, nf, nw, fl, J, S, U, held, en, HS, sb, V, cn, O9, g, sd, w, fl9, gra, grp, rw9, rf9, K, U9, bb, bf, kp, kf, kb, g9, rfl, rfl, hl, ht, hnw, hnf, hfl, hok, hw, hH, hV, hcn, hob⟩ := hi.ex
  exact gStp.mm (C_unsee a f _ ) (R_unsee b _ ) rfl ⟨⟨rfl, rfl, hl, ht⟩, ⟨rfl, rfl, hnw, hnf, hfl, rfl⟩, ⟨hok.up (by omega), w, rfl, hw⟩, hH.up (by omega), hV.up (by omega), ⟨rfl, Nat.zero_le _, hob, rfl, rfl, rfl, rfl⟩, rfl⟩
set_option maxHeartbeats 4000000 in
theorem St_share (hi : Inv B c r) (hB : B + 400 < 2 ^ 31) (v : Int32) (up : Bool) : gStp false l D E T a f b yX5_share wsX5_share [.int v, .int (b2i up)] yX6_share wsX6_share [.int v, .int (b2i up)] (B + 99) c r := by
  obtain ⟨tt, len, nf, nw, fl, J, S, U, held, en, HS, sb, V, cn, O9, g, sd, w, fl9, gra, grp, rw9, rf9, K, U9, bb, bf, kp, kf, kb, g9, rfl, rfl, hl, ht, hnw, hnf, hfl, hok, hw, hH, hV, hcn, hob⟩ := hi.ex
  rcases dec2 (outB v 0 3) with h | h
  · exact gStp.mm (C_share_out a f _ v _ h) (R_share_out b _ v _ h) rfl ⟨⟨rfl, rfl, hl, ht⟩, ⟨rfl, rfl, hnw, hnf, hfl, rfl⟩, ⟨hok.up (by omega), w, rfl, hw⟩, hH.up (by omega), hV.up (by omega), ⟨rfl, hcn, hob, rfl, rfl, rfl, rfl⟩, rfl⟩
  · obtain ⟨i, hi9, rfl⟩ := out_n (n := 3) (by decide) h
    rcases dec2 ((sD S).testBit i) with h2 | h2
    · exact gStp.mm (C_share_no a f _ i _ hi9 hok.d h2) (R_share_no b _ i _ hi9 hok.d h2) rfl ⟨⟨rfl, rfl, hl, ht⟩, ⟨rfl, rfl, hnw, hnf, hfl, rfl⟩, ⟨hok.up (by omega), w, rfl, hw⟩, hH.up (by omega), hV.up (by omega), ⟨rfl, hcn, hob, rfl, rfl, rfl, rfl⟩, rfl⟩
    · exact gStp.ee (C_share a f _ B i up hok (by omega) hnw hnf hi9 h2) (R_share b _ B i up hok (by omega) hnw hnf hi9 h2) (congrArg Value.int (by rw [wg_w hw hfl]; rfl)) (fun u v => ⟨⟨rfl, rfl, hl, ht⟩, ⟨rfl, rfl, hnw, hnf, hfl, rfl⟩, ⟨hok.up (by omega), w, rfl, hw⟩, hH.up (by omega), hV.up (by omega), ⟨rfl, hcn, hob, rfl, rfl, rfl, rfl⟩, rfl⟩)
set_option maxHeartbeats 4000000 in
theorem St_lost (hi : Inv B c r) (hB : B + 400 < 2 ^ 31) (v : Int32) (up : Bool) : gStp false l D E T a f b yX5_lost wsX5_lost [.int v, .int (b2i up)] yX6_lost wsX6_lost [.int v, .int (b2i up)] (B + 99) c r := by
  obtain ⟨tt, len, nf, nw, fl, J, S, U, held, en, HS, sb, V, cn, O9, g, sd, w, fl9, gra, grp, rw9, rf9, K, U9, bb, bf, kp, kf, kb, g9, rfl, rfl, hl, ht, hnw, hnf, hfl, hok, hw, hH, hV, hcn, hob⟩ := hi.ex
  rcases dec2 (outB v 0 10) with h | h
  · exact gStp.mm (C_lost_out a f _ v _ h) (R_lost_out b _ v _ h) rfl ⟨⟨rfl, rfl, hl, ht⟩, ⟨rfl, rfl, hnw, hnf, hfl, rfl⟩, ⟨hok.up (by omega), w, rfl, hw⟩, hH.up (by omega), hV.up (by omega), ⟨rfl, hcn, hob, rfl, rfl, rfl, rfl⟩, rfl⟩
  · obtain ⟨k, hk, rfl⟩ := out_n (n := 10) (by decide) h
    exact gStp.ee (C_lost a f _ B k up hok (by omega) hnw hnf hk) (R_lost b _ B k up hok (by omega) hnw hnf hk) (congrArg Value.int (by rw [lost_eq hok hw hfl g k]; rfl)) (fun u v => ⟨⟨rfl, rfl, hl, ht⟩, ⟨rfl, rfl, hnw, hnf, hfl, rfl⟩, ⟨hok.up (by omega), w, rfl, hw⟩, hH.up (by omega), hV.up (by omega), ⟨rfl, hcn, hob, rfl, rfl, rfl, rfl⟩, rfl⟩)
set_option maxHeartbeats 4000000 in
theorem St_seed (hi : Inv B c r) (hB : B + 400 < 2 ^ 31) (v : Int64) : gStp true l D E T a f b yX5_seed wsX5_seed [.long v] yX6_seed wsX6_seed [.long v] (B + 99) c r := by
  obtain ⟨tt, len, nf, nw, fl, J, S, U, held, en, HS, sb, V, cn, O9, g, sd, w, fl9, gra, grp, rw9, rf9, K, U9, bb, bf, kp, kf, kb, g9, rfl, rfl, hl, ht, hnw, hnf, hfl, hok, hw, hH, hV, hcn, hob⟩ := hi.ex
  exact gStp.mm (C_seed a f _ v) (R_seed b _ v) rfl ⟨⟨rfl, rfl, hl, ht⟩, ⟨rfl, rfl, hnw, hnf, hfl, rfl⟩, ⟨hok.up (by omega), w, rfl, hw⟩, hH.up (by omega), hV.up (by omega), ⟨rfl, hcn, hob, rfl, rfl, rfl, rfl⟩, rfl⟩
set_option maxHeartbeats 4000000 in
theorem St_drawn (hi : Inv B c r) (hB : B + 400 < 2 ^ 31) (v : Int32) : gStp false l D E T a f b yX5_drawn wsX5_drawn [.int v] yX6_drawn wsX6_drawn [.int v] (B + 99) c r := by
  obtain ⟨tt, len, nf, nw, fl, J, S, U, held, en, HS, sb, V, cn, O9, g, sd, w, fl9, gra, grp, rw9, rf9, K, U9, bb, bf, kp, kf, kb, g9, rfl, rfl, hl, ht, hnw, hnf, hfl, hok, hw, hH, hV, hcn, hob⟩ := hi.ex
  rcases dec2 (outB v 1 20) with h | h
  · exact gStp.mm (C_drawn_out a f _ v h) (R_drawn_out b _ v h) rfl ⟨⟨rfl, rfl, hl, ht⟩, ⟨rfl, rfl, hnw, hnf, hfl, rfl⟩, ⟨hok.up (by omega), w, rfl, hw⟩, hH.up (by omega), hV.up (by omega), ⟨rfl, hcn, hob, rfl, rfl, rfl, rfl⟩, rfl⟩
  · obtain ⟨n, hn1, hn, rfl⟩ := out_n1 (n := 20) (by decide) h
    exact gStp.ee (C_drawn a f _ B n hok (by omega) hnw hnf hn1 hn) (R_drawn b _ B n hok (by omega) hnw hnf hn1 hn) (congrArg Value.int (by rw [dd_w hw hfl]; rfl)) (fun u v => ⟨⟨rfl, rfl, hl, ht⟩, ⟨rfl, rfl, hnw, hnf, hfl, rfl⟩, ⟨hok.up (by omega), w, rfl, hw⟩, hH.up (by omega), hV.up (by omega), ⟨rfl, hcn, hob, rfl, rfl, rfl, rfl⟩, (congrArg Prod.fst (dd_w hw hfl sd n)).symm⟩)
set_option maxHeartbeats 4000000 in
theorem St_keep (hi : Inv B c r) (hB : B + 400 < 2 ^ 31) (v : Int32) : gStp false l D E T a f b yX5_keep wsX5_keep [.int v] yX6_keep wsX6_keep [.int v] (B + 99) c r := by
  obtain ⟨tt, len, nf, nw, fl, J, S, U, held, en, HS, sb, V, cn, O9, g, sd, w, fl9, gra, grp, rw9, rf9, K, U9, bb, bf, kp, kf, kb, g9, rfl, rfl, hl, ht, hnw, hnf, hfl, hok, hw, hH, hV, hcn, hob⟩ := hi.ex
  rcases dec2 (outB v 0 1) with h | h
  · exact gStp.mm (C_keep_out a f _ v h) (R_keep_out b _ v h) rfl ⟨⟨rfl, rfl, hl, ht⟩, ⟨rfl, rfl, hnw, hnf, hfl, rfl⟩, ⟨hok.up (by omega), w, rfl, hw⟩, hH.up (by omega), hV.up (by omega), ⟨rfl, hcn, hob, rfl, rfl, rfl, rfl⟩, rfl⟩
  · obtain ⟨i, hi9, rfl⟩ := out_n (n := 1) (by decide) h
    rcases (show i = 0 ∨ i = 1 by omega) with rfl | rfl
    · exact gStp.mm (C_keep_0 a f _ ) (R_keep b _ 0 hi9) rfl ⟨⟨rfl, rfl, hl, ht⟩, ⟨rfl, rfl, hnw, hnf, hfl, rfl⟩, ⟨hok.up (by omega), w, rfl, hw⟩, hH.up (by omega), (hV.up (by omega)).keep 0 ⟨hok.up (by omega), w, rfl, hw⟩, ⟨rfl, hcn, hob, rfl, rfl, rfl, rfl⟩, rfl⟩
    · exact gStp.mm (C_keep_1 a f _ ) (R_keep b _ 1 hi9) rfl ⟨⟨rfl, rfl, hl, ht⟩, ⟨rfl, rfl, hnw, hnf, hfl, rfl⟩, ⟨hok.up (by omega), w, rfl, hw⟩, hH.up (by omega), (hV.up (by omega)).keep 1 ⟨hok.up (by omega), w, rfl, hw⟩, ⟨rfl, hcn, hob, rfl, rfl, rfl, rfl⟩, rfl⟩
set_option maxHeartbeats 4000000 in
theorem St_again (hi : Inv B c r) (hB : B + 400 < 2 ^ 31) (v : Int32) : gStp false l D E T a f b yX5_again wsX5_again [.int v] yX6_again wsX6_again [.int v] (B + 99) c r := by
  obtain ⟨tt, len, nf, nw, fl, J, S, U, held, en, HS, sb, V, cn, O9, g, sd, w, fl9, gra, grp, rw9, rf9, K, U9, bb, bf, kp, kf, kb, g9, rfl, rfl, hl, ht, hnw, hnf, hfl, hok, hw, hH, hV, hcn, hob⟩ := hi.ex
  rcases dec2 (outB v 0 1) with h | h
  · exact gStp.mm (C_again_out a f _ v h) (R_again_out b _ v h) rfl ⟨⟨rfl, rfl, hl, ht⟩, ⟨rfl, rfl, hnw, hnf, hfl, rfl⟩, ⟨hok.up (by omega), w, rfl, hw⟩, hH.up (by omega), hV.up (by omega), ⟨rfl, hcn, hob, rfl, rfl, rfl, rfl⟩, rfl⟩
  · obtain ⟨i, hi9, rfl⟩ := out_n (n := 1) (by decide) h
    rcases (show i = 0 ∨ i = 1 by omega) with rfl | rfl
    · obtain ⟨v1, v2, v3, v4⟩ := hV 0 (by omega)
      rcases v3 with v5 | v5
      · exact gStp.mm (C_again_no0 a f _ v5) (R_again_no b _ 0 hi9 (v2.symm.trans v5)) rfl ⟨⟨rfl, rfl, hl, ht⟩, ⟨rfl, rfl, hnw, hnf, hfl, rfl⟩, ⟨hok.up (by omega), w, rfl, hw⟩, hH.up (by omega), hV.up (by omega), ⟨rfl, hcn, hob, rfl, rfl, rfl, rfl⟩, rfl⟩
      · obtain ⟨w2, q1, q2, q3⟩ := v4 v5
        exact gStp.mm (C_again_0 a f _ v5) (R_again b _ 0 (wW (V 0) w2) hi9 (v2.symm.trans v5) q2 q3) rfl ⟨⟨rfl, rfl, hl, ht⟩, ⟨rfl, rfl, hnw, hnf, hfl, rfl⟩, ⟨v1.up (by omega), w2, rfl, q1⟩, (hH.up (by omega)).none, hV.up (by omega), ⟨rfl, hcn, hob, rfl, rfl, rfl, rfl⟩, rfl⟩
    · obtain ⟨v1, v2, v3, v4⟩ := hV 1 (by omega)
      rcases v3 with v5 | v5
      · exact gStp.mm (C_again_no1 a f _ v5) (R_again_no b _ 1 hi9 (v2.symm.trans v5)) rfl ⟨⟨rfl, rfl, hl, ht⟩, ⟨rfl, rfl, hnw, hnf, hfl, rfl⟩, ⟨hok.up (by omega), w, rfl, hw⟩, hH.up (by omega), hV.up (by omega), ⟨rfl, hcn, hob, rfl, rfl, rfl, rfl⟩, rfl⟩
      · obtain ⟨w2, q1, q2, q3⟩ := v4 v5
        exact gStp.mm (C_again_1 a f _ v5) (R_again b _ 1 (wW (V 1) w2) hi9 (v2.symm.trans v5) q2 q3) rfl ⟨⟨rfl, rfl, hl, ht⟩, ⟨rfl, rfl, hnw, hnf, hfl, rfl⟩, ⟨v1.up (by omega), w2, rfl, q1⟩, (hH.up (by omega)).none, hV.up (by omega), ⟨rfl, hcn, hob, rfl, rfl, rfl, rfl⟩, rfl⟩
set_option maxHeartbeats 4000000 in
theorem St_count (hi : Inv B c r) (hB : B + 400 < 2 ^ 31) (v : Int32) : gStp false l D E T a f b yX5_count wsX5_count [.int v] yX6_count wsX6_count [.int v] (B + 99) c r := by
  obtain ⟨tt, len, nf, nw, fl, J, S, U, held, en, HS, sb, V, cn, O9, g, sd, w, fl9, gra, grp, rw9, rf9, K, U9, bb, bf, kp, kf, kb, g9, rfl, rfl, hl, ht, hnw, hnf, hfl, hok, hw, hH, hV, hcn, hob⟩ := hi.ex
  exact gStp.mm (C_count a f _ v) (R_count b _ v) rfl ⟨⟨rfl, rfl, hl, ht⟩, ⟨rfl, rfl, hnw, hnf, hfl, rfl⟩, ⟨hok.up (by omega), w, rfl, hw⟩, hH.up (by omega), hV.up (by omega), ⟨rfl, hcn, hob, rfl, rfl, rfl, rfl⟩, rfl⟩
end GStep
