/-! MY ROWS 9: class and reference side by side: what of the commands and of the fields counts -/
section GRel
def agW (n : Nat) (w w' : Nat → Int32) : Prop := ∀ j, j < 3 * n → w' j = w j
theorem cm_ag {n : Nat} {w w' : Nat → Int32} (h : agW n w w') (c : Nat) {i : Nat} (hi : i < 3) : cmF w' n c i = cmF w n c i := by
  unfold cmF
  by_cases z : n = 0
  · rw [if_pos z, if_pos z]
  · rw [if_neg z, if_neg z]
    have := Nat.mod_lt c (Nat.pos_of_ne_zero z)
    exact h _ (by omega)
theorem ep_ag {n : Nat} {w w' : Nat → Int32} (h : agW n w w') (b : Nat → Int32) (c : Nat) (x : Nat → Int32) : epF b w' n c x = epF b w n c x := by
  unfold epF cmX
  rw [cm_ag h c (by omega), cm_ag h c (by omega), cm_ag h c (by omega)]
theorem ul_ag {n : Nat} {w w' : Nat → Int32} (h : agW n w w') (b : Nat → Int32) (c : Nat) (f : Nat → UInt32) (t : Nat → Int32) : ulF b w' n c f t = ulF b w n c f t := by
  unfold ulF cuU cuV cuW
  rw [cm_ag h c (i := 0) (by omega), cm_ag h c (i := 1) (by omega), cm_ag h c (i := 2) (by omega)]
section
variable {nw nf : Nat} {fl fl' x : Nat → Int32} {S : TS} {w : Nat → Int32}
theorem sF_w (S : TS) (w : Nat → Int32) : sF (wW S w) = sF S := rfl
theorem eS_w (h : agW nw (sW S) w) : eS nw x (wW S w) = eS nw x S := ep_ag h _ _ _
theorem cS_w (h : agW nw (sW S) w) : cS nw x (wW S w) = cS nw x S := by
  show stF (sD S) (sF S) (eS nw x (wW S w)) (FP.i2f (sT S 1)) = _
  rw [eS_w h]
  rfl
theorem aS_w (h : agW nw (sW S) w) : aS nw x (wW S w) = aS nw x S := by
  show aiF (sF S) (eS nw x (wW S w)) (cS nw x (wW S w)) = _
  rw [eS_w h, cS_w h]
  rfl
theorem nS_w (h : agW nw (sW S) w) : nS nw x (wW S w) = nS nw x S := by
  show neF (sD S) (FP.i2f (sT S 1)) (aS nw x (wW S w)) 4 = _
  rw [aS_w h]
  rfl
theorem hS_w (h : agW nw (sW S) w) : hS nw x (wW S w) = hS nw x S := by
  show heF (sD S) (aS nw x (wW S w)) 4 = _
  rw [aS_w h]
  rfl
theorem bS_w (h : agW nw (sW S) w) : bS nw x (wW S w) = bS nw x S := by
  show fgt (hS nw x (wW S w)) (FP.i2f (sT S 0)) = _
  rw [hS_w h]
  rfl
theorem t1_w (h : agW nw (sW S) w) : t1F nw x (wW S w) = wW (t1F nw x S) w := by
  unfold t1F
  by_cases m : sM S = 1
  · rw [if_pos (show sM (wW S w) = 1 from m), if_pos m]
    rfl
  · rw [if_neg (show ¬ sM (wW S w) = 1 from m), if_neg m]
    unfold t1W
    rw [bS_w h, aS_w h]
    rfl
theorem t2_w (h : agW nf fl fl') (S : TS) (w : Nat → Int32) : t2F nf fl' (wW S w) = wW (t2F nf fl S) w := by
  unfold t2F
  by_cases m : 1 < pcn (sD S)
  · rw [if_pos (show 1 < pcn (sD (wW S w)) from m), if_pos m]
  · rw [if_neg (show ¬ 1 < pcn (sD (wW S w)) from m), if_neg m]
    unfold t2U
    rw [ul_ag h]
    rfl
theorem tk_w (h : agW nw (sW S) w) (hf : agW nf fl fl') : tkF nw nf fl' x (wW S w) = wW (tkF nw nf fl x S) w := by
  unfold tkF
  rw [t1_w h, t2_w hf]
  rfl
theorem t1_W (nw : Nat) (x : Nat → Int32) (S : TS) : sW (t1F nw x S) = sW S := by
  unfold t1F
  split <;> rfl
theorem tk_W (nw nf : Nat) (fl x : Nat → Int32) (S : TS) : sW (tkF nw nf fl x S) = sW S := by
  unfold tkF t3F t2F
  have := t1_W nw x S
  split <;> exact this
theorem tn_W (nw nf : Nat) (fl x : Nat → Int32) (S : TS) : ∀ n, sW (tkN nw nf fl x S n) = sW S
  | 0 => rfl
  | n + 1 => (tk_W nw nf fl x _).trans (tn_W nw nf fl x S n)
theorem tn_w (h : agW nw (sW S) w) (hf : agW nf fl fl') : ∀ n, tkN nw nf fl' x (wW S w) n = wW (tkN nw nf fl x S n) w
  | 0 => rfl
  | n + 1 => by
    show tkF nw nf fl' x (tkN nw nf fl' x (wW S w) n) = wW (tkF nw nf fl x (tkN nw nf fl x S n)) w
    rw [tn_w h hf n]
    exact tk_w (by rw [tn_W]; exact h) hf
theorem pl_w (h : agW nw (sW S) w) (k : Nat) : plF nw x (wW S w) k = plF nw x S k := by
  unfold plF
  rw [cS_w h, nS_w h, hS_w h, bS_w h]
theorem ne_w (h : agW nw (sW S) w) (k : Nat) : neA nw x (wW S w) k = neA nw x S k := by
  unfold neA
  rw [aS_w h]
  rfl
theorem sp_w (h : agW nw (sW S) w) (hf : agW nf fl fl') : spA nw nf fl' x (wW S w) = spA nw nf fl x S := by
  funext j
  unfold spA
  rw [tn_w h hf]
  rfl
theorem du_w (h : agW nw (sW S) w) (hf : agW nf fl fl') : ∀ g, duA nw nf fl' x (wW S w) g = duA nw nf fl x S g
  | 0 => rfl
  | g + 1 => by
    have e : duZ nw nf fl' x (wW S w) g = duZ nw nf fl x S g := by
      unfold duZ duT
      rw [show stS (wW S w) 2 (nI g) = wW (stS S 2 (nI g)) w from rfl, tn_w (S := stS S 2 (nI g)) h hf, sF_w]
    unfold duA
    rw [e, du_w h hf g]
theorem cl_w (h : agW nw (sW S) w) (hf : agW nf fl fl') (n : Nat) : clR nw nf fl' x (wW S w) n = clR nw nf fl x S n := by
  unfold clR
  rw [tn_w h hf]
  rfl
theorem xa_w (h : agW nw (sW S) w) (hf : agW nf fl fl') (O9 : Nat → Nat × Nat × Nat × Bool) (i : Nat) : ∀ j, xaB nw nf fl' x (wW S w) O9 i j = xaB nw nf fl x S O9 i j
  | 0 => rfl
  | j + 1 => by
    unfold xaB
    rw [xa_w h hf O9 i j, show skS (wW S w) i = wW (skS S i) w from rfl, tn_w (S := skS S i) h hf]
    rfl
theorem wc_w (h : agW nw (sW S) w) (hf : agW nf fl fl') (O9 : Nat → Nat × Nat × Nat × Bool) (cn : Nat) : ∀ i, wcA nw nf fl' x (wW S w) O9 cn i = wcA nw nf fl x S O9 cn i
  | 0 => rfl
  | i + 1 => by
    unfold wcA
    rw [wc_w h hf O9 cn i, xa_w h hf]
    rfl
theorem wg_w (h : agW nw (sW S) w) (hf : agW nf fl fl') : wgV nw nf fl' x (wW S w) = wgV nw nf fl x S := by
  funext a
  unfold wgV
  rw [cl_eq, cl_eq, show lvS (wW S w) a = wW (lvS S a) w from rfl, cl_w (S := lvS S a) h hf]
theorem gpB_w (kd a c : Nat) : gpB kd a c (wW S w) = gpB kd a c S := rfl
theorem gpS_w (kd a c : Nat) : gpS kd a c (wW S w) = wW (gpS kd a c S) w := by
  unfold gpS
  rw [gpB_w]
  split
  · split
    · rfl
    · split
      · rfl
      · split <;> rfl
  · rfl
theorem hdB_w (q : Nat) : hdB q (wW S w) = hdB q S := rfl
theorem hd_w (h : agW nw (sW S) w) (hf : agW nf fl fl') (q : Nat) : hdS nw nf fl' x q (wW S w) = wW (hdS nw nf fl x q S) w := by
  unfold hdS
  split
  · exact tn_w h hf _
  · split
    · rfl
    · split
      · exact gpS_w _ _ _
      · rfl
theorem gp_W (kd a c : Nat) (S : TS) : sW (gpS kd a c S) = sW S := by
  unfold gpS
  split
  · split
    · rfl
    · split
      · rfl
      · split <;> rfl
  · rfl
theorem hd_W (nw nf : Nat) (fl x : Nat → Int32) (q : Nat) (S : TS) : sW (hdS nw nf fl x q S) = sW S := by
  unfold hdS
  split
  · exact tn_W _ _ _ _ _ _
  · split
    · rfl
    · split
      · exact gp_W _ _ _ _
      · rfl
theorem jd_W (nw nf : Nat) (fl x : Nat → Int32) (n row : Nat) (S : TS) : ∀ i, sW (jdS nw nf fl x n row S i) = sW S
  | 0 => rfl
  | i + 1 => (hd_W nw nf fl x _ _).trans (jd_W nw nf fl x n row S i)
theorem jd_w (h : agW nw (sW S) w) (hf : agW nf fl fl') (n row : Nat) : ∀ i, jdS nw nf fl' x n row (wW S w) i = wW (jdS nw nf fl x n row S i) w
  | 0 => rfl
  | i + 1 => by
    show hdS nw nf fl' x (stN n row i) (jdS nw nf fl' x n row (wW S w) i) = wW (hdS nw nf fl x (stN n row i) (jdS nw nf fl x n row S i)) w
    rw [jd_w h hf n row i]
    exact hd_w (by rw [jd_W]; exact h) hf _
theorem jdB_w (h : agW nw (sW S) w) (hf : agW nf fl fl') (n row : Nat) : jdB nw nf fl' x n row (wW S w) = jdB nw nf fl x n row S := by
  funext i
  unfold jdB
  rw [jd_w h hf, hdB_w]
theorem dd_W (nw nf : Nat) (fl : Nat → Int32) (r0 : Int64) (S : TS) : ∀ i, sW (ddP nw nf fl r0 S i).2 = sW S
  | 0 => rfl
  | i + 1 => (tk_W nw nf fl _ _).trans (dd_W nw nf fl r0 S i)
theorem dd_w (h : agW nw (sW S) w) (hf : agW nf fl fl') (r0 : Int64) : ∀ i, ddP nw nf fl' r0 (wW S w) i = ((ddP nw nf fl r0 S i).1, wW (ddP nw nf fl r0 S i).2 w)
  | 0 => rfl
  | i + 1 => by
    show (ddR (ddP nw nf fl' r0 (wW S w) i).1, tkF nw nf fl' (ddX (ddP nw nf fl' r0 (wW S w) i).1) (ddP nw nf fl' r0 (wW S w) i).2) = (ddR (ddP nw nf fl r0 S i).1, wW (tkF nw nf fl (ddX (ddP nw nf fl r0 S i).1) (ddP nw nf fl r0 S i).2) w)
    rw [dd_w h hf r0 i]
    show (ddR (ddP nw nf fl r0 S i).1, tkF nw nf fl' (ddX (ddP nw nf fl r0 S i).1) (wW (ddP nw nf fl r0 S i).2 w)) = _
    rw [tk_w (S := (ddP nw nf fl r0 S i).2) (by rw [dd_W]; exact h) hf]
end
/-- the wheel whose loss costs most: both ways to look for it -/
theorem wo_wr {B : Nat} {S : TS} {nw nf : Nat} {fl fl' x w : Nat → Int32} (hok : OkS B S) (h : agW nw (sW S) w) (hf : agW nf fl fl') : ∀ i, i ≤ 4 → (woA nw nf fl x S i = (-9, -1) ∧ wrA nw nf fl' x (wW S w) i = (-9, 0)) ∨ ((woA nw nf fl x S i = wrA nw nf fl' x (wW S w) i) ∧ ¬ (woA nw nf fl x S i).1 = -9)
  | 0, _ => Or.inl ⟨rfl, rfl⟩
  | i + 1, hi => by
    have e : clR nw nf fl' x (skS (wW S w) i) 20 = woL nw nf fl x S i := by
      rw [show skS (wW S w) i = wW (skS S i) w from rfl, cl_w (S := skS S i) h hf]
      unfold woL
      rw [cl_eq]
    obtain ⟨q, hq, eq⟩ := cl_n (hok.sk (show i < 4 by omega)) nw nf fl x 20
    have eL : woL nw nf fl x S i = nI q := eq
    have pos : (-1 : Int32) < woL nw nf fl x S i := by
      rw [eL]
      have : (0 : Int32) ≤ nI q := nI_le (Nat.zero_le q) (by omega)
      exact Int32.lt_of_lt_of_le (by decide) this
    have ne9 : ¬ nI i = -9 := by
      intro z
      have : (0 : Int32) ≤ nI i := nI_le (Nat.zero_le i) (by omega)
      rw [z] at this
      exact absurd this (by decide)
    by_cases d : (sD S).testBit i = false
    · rcases wo_wr hok h hf i (by omega) with ⟨a1, a2⟩ | ⟨a1, a2⟩
      · refine Or.inr ⟨?_, ?_⟩
        · rw [woA, wrA, a1, a2, if_pos ⟨d, pos⟩, if_pos ⟨d, Or.inl rfl⟩, e]
        · rw [woA, a1, if_pos ⟨d, pos⟩]
          exact ne9
      · by_cases k : (woA nw nf fl x S i).2 < woL nw nf fl x S i
        · refine Or.inr ⟨?_, ?_⟩
          · rw [woA, wrA, if_pos ⟨d, k⟩, if_pos ⟨d, Or.inr (by rw [e, ← a1]; exact k)⟩, e]
          · rw [woA, if_pos ⟨d, k⟩]
            exact ne9
        · refine Or.inr ⟨?_, ?_⟩
          · rw [woA, wrA, if_neg (fun z => k z.2), if_neg (fun z => z.2.elim (fun y => a2 (by rw [a1]; exact y)) (fun y => k (by rw [e, ← a1] at y; exact y))), a1]
          · rw [woA, if_neg (fun z => k z.2)]
            exact a2
    · have c1 : woA nw nf fl x S (i + 1) = woA nw nf fl x S i := by rw [woA, if_neg (fun z => d z.1)]
      have c2 : wrA nw nf fl' x (wW S w) (i + 1) = wrA nw nf fl' x (wW S w) i := by rw [wrA, if_neg (fun z => d z.1)]
      rw [c1, c2]
      exact wo_wr hok h hf i (by omega)
theorem wo_eq {B : Nat} {S : TS} {nw nf : Nat} {fl fl' x w : Nat → Int32} (hok : OkS B S) (h : agW nw (sW S) w) (hf : agW nf fl fl') : (wrA nw nf fl' x (wW S w) 4).1 = (woA nw nf fl x S 4).1 := by
  rcases wo_wr (x := x) hok h hf 4 (Nat.le_refl 4) with ⟨a1, a2⟩ | ⟨a1, a2⟩
  · rw [a1, a2]
  · rw [a1]
/-- the sum over the sets that live is that over the sets that die -/
def smL (t : Nat → Nat) : List Nat → Nat
  | [] => 0
  | a :: r => t a + smL t r
theorem smL_app (t : Nat → Nat) : ∀ l1 l2, smL t (l1 ++ l2) = smL t l1 + smL t l2
  | [], l2 => by simp [smL]
  | a :: r, l2 => by
    show t a + smL t (r ++ l2) = t a + smL t r + smL t l2
    rw [smL_app t r l2, Nat.add_assoc]
theorem smL_rev (t : Nat → Nat) : ∀ l, smL t l.reverse = smL t l
  | [] => rfl
  | a :: r => by
    rw [List.reverse_cons, smL_app, smL_rev t r]
    show smL t r + (t a + 0) = t a + smL t r
    omega
theorem smL_map (t : Nat → Nat) (m : Nat → Nat) : ∀ l, smL t (l.map m) = smL (fun a => t (m a)) l
  | [] => rfl
  | a :: r => by
    show t (m a) + smL t (r.map m) = t (m a) + smL _ r
    rw [smL_map t m r]
theorem smL_congr {t u : Nat → Nat} : ∀ {l : List Nat}, (∀ a, a ∈ l → t a = u a) → smL t l = smL u l
  | [], _ => rfl
  | a :: r, h => by
    show t a + smL t r = u a + smL u r
    rw [h a List.mem_cons_self, smL_congr (fun b hb => h b (List.mem_cons_of_mem _ hb))]
def subL (al : Nat) : List Nat := (List.range 16).filter (fun a => a &&& al == a)
theorem subL_rev : ∀ al, al < 16 → (subL al).map (fun a => al - a) = (subL al).reverse := by decide +kernel
theorem subL_ok : ∀ al, al < 16 → ((subL al).all (fun a => decide (a &&& al = a ∧ a < 16 ∧ a ≤ al ∧ (al - a) &&& al = al - a ∧ pcn al - pcn (al - a) = pcn a))) = true := by decide +kernel
theorem subL_or : ∀ d, d < 16 → ((subL (15 - d)).all (fun a => (d ||| (15 - d - a)) == 15 - a)) = true := by decide +kernel
theorem sum_rng (al : Nat) (P : Nat → Prop) [DecidablePred P] (t : Nat → Nat) (F : Nat → Nat) (h0 : F 0 = 0) (hs : ∀ a, F (a + 1) = if a &&& al = a ∧ P a then F a + t a else F a) : ∀ n, F n = smL (fun a => if P a then t a else 0) ((List.range n).filter (fun a => a &&& al == a))
  | 0 => h0
  | n + 1 => by
    rw [List.range_succ, List.filter_append, smL_app, ← sum_rng al P t F h0 hs n, hs n]
    by_cases c : n &&& al = n
    · rw [List.filter_cons_of_pos (by simpa using c)]
      show _ = F n + ((if P n then t n else 0) + 0)
      by_cases k : P n
      · rw [if_pos ⟨c, k⟩, if_pos k, Nat.add_zero]
      · rw [if_neg (fun z => k z.2), if_neg k]
        rfl
    · rw [List.filter_cons_of_neg (by simpa using c), if_neg (fun z => c z.1)]
      rfl
end GRel
