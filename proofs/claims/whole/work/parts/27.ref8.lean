section P27
theorem sg_c : ∀ c, c < 10 → ((((-1 : Int32) = nI c - 1) ↔ 0 = c) ∧ (((1 : Int32) = nI c - 1) ↔ 2 = c) ∧ (((0 : Int32) = nI c - 1) ↔ 1 = c)) := by decide +kernel
theorem sg_m {x : UInt32} {c : Nat} (hc : c < 10) (h : flt x FP.fconst0 = true) : fsg x = nI c - 1 ↔ 0 = c := by
  rw [fsg_lt h]
  exact (sg_c c hc).1
theorem sg_p {x : UInt32} {c : Nat} (hc : c < 10) (h : flt x FP.fconst0 = false) (h2 : fgt x FP.fconst0 = true) : fsg x = nI c - 1 ↔ 2 = c := by
  rw [fsg_gt h h2]
  exact (sg_c c hc).2.1
theorem sg_z {x : UInt32} {c : Nat} (hc : c < 10) (h : flt x FP.fconst0 = false) (h2 : fgt x FP.fconst0 = false) : fsg x = nI c - 1 ↔ 1 = c := by
  rw [fsg_eq h h2]
  exact (sg_c c hc).2.2
theorem rw_1 {n : Nat} (h1 : 1 ≤ n) (h : n ≤ 3) : (rwF n - 1).toInt = (rwF n).toInt - 1 := by
  rcases (show n = 1 ∨ n = 2 ∨ n = 3 by omega) with rfl | rfl | rfl <;> decide
theorem rw_out {n : Nat} {w : Int64} (h1 : 1 ≤ n) (h : n ≤ 3) (ho : lg_cmp w 0 < 0 ∨ ¬ lg_cmp w (rwF n) < 0) : inL w 0 (rwF n - 1) = false := by
  unfold inL
  refine decide_eq_false ?_
  intro q
  rcases ho with z | z
  · exact Int32.not_le.mpr z ((lg_cmp_ge w 0).mpr q.1)
  · have k := (lg_cmp_ge w (rwF n)).mp (Int32.not_lt.mp z)
    have q2 := q.2
    rw [Int64.le_iff_toInt_le] at k q2
    rw [rw_1 h1 h] at q2
    omega
theorem rw_in {n : Nat} {w : Int64} (h1 : 1 ≤ n) (h : n ≤ 3) (h12 : ¬ lg_cmp w 0 < 0) (h21 : lg_cmp w (rwF n) < 0) : inL w 0 (rwF n - 1) = true := by
  unfold inL
  refine decide_eq_true ⟨(lg_cmp_ge w 0).mp (Int32.not_lt.mp h12), ?_⟩
  have k : ¬ rwF n ≤ w := fun z => Int32.not_le.mpr h21 ((lg_cmp_ge w (rwF n)).mpr z)
  rw [Int64.le_iff_toInt_le] at k ⊢
  rw [rw_1 h1 h]
  omega
theorem rw_ne {k : Nat} (h : k < 3) : rwF k ≠ 0 := by
  rcases (show k = 0 ∨ k = 1 ∨ k = 2 by omega) with rfl | rfl | rfl <;> decide
theorem rw_lN : ∀ k, rwF k = lN (10000 ^ k)
  | 0 => rfl
  | k + 1 => by
    show rwF k * 10000 = _
    rw [rw_lN k, Nat.pow_succ]
    exact (Int64.ofNat_mul ..).symm
theorem st_n (r9 n i : Nat) (h : r9 < 2 ^ 62) (hk : n - 1 - i < 3) : (lN r9 / rwF (n - 1 - i) - lN r9 / rwF (n - 1 - i) / 10000 * 10000).toInt32 = nI (stN n r9 i) := by
  have e : lN r9 / rwF (n - 1 - i) = lN (r9 / 10000 ^ (n - 1 - i)) := by
    rw [rw_lN]
    refine pk_lDiv (by omega) (Nat.pow_pos (by decide)) ?_
    rcases (show n - 1 - i = 0 ∨ n - 1 - i = 1 ∨ n - 1 - i = 2 by omega) with z | z | z <;> rw [z] <;> decide
  rw [e]
  exact (st_mod r9 (n - 1 - i) h).symm
/-- while it is safe each tick is lost -/
theorem safe_n {nw nf : Nat} {fl x : Nat → Int32} {S : TS} (h : sM S = 1) : ∀ n, sM (tkN nw nf fl x S n) = 1 ∧ sI (tkN nw nf fl x S n) + sA (tkN nw nf fl x S n) = sI S + sA S + nI n
  | 0 => ⟨h, (Int32.add_zero _).symm⟩
  | n + 1 => by
    obtain ⟨i1, i2⟩ := safe_n (nw := nw) (nf := nf) (fl := fl) (x := x) h n
    have e : ∀ U : TS, sM U = 1 → sM (tkF nw nf fl x U) = 1 ∧ sI (tkF nw nf fl x U) + sA (tkF nw nf fl x U) = sI U + sA U + 1 := by
      intro U hU
      have t : t1F nw x U = t1S U := if_pos hU
      unfold tkF
      rw [t]
      unfold t2F t3F
      have a : sI U + (sA U + 1) = sI U + sA U + 1 := (Int32.add_assoc _ _ _).symm
      split
      · exact ⟨hU, a⟩
      · exact ⟨hU, a⟩
    obtain ⟨j1, j2⟩ := e _ i1
    refine ⟨j1, j2.trans ?_⟩
    rw [i2, Int32.add_assoc]
    exact congrArg (fun z => sI S + sA S + z) (nI_add n 1)
theorem cl_eq (nw nf : Nat) (fl x : Nat → Int32) (S : TS) (n : Nat) : clN nw nf fl x S n = clR nw nf fl x S n := by
  unfold clN clR
  split
  · rename_i h
    rw [(safe_n h n).2, Int32.add_comm (sI S + sA S), Int32.add_sub_cancel]
  · rfl
def wgR (nw nf : Nat) (fl x : Nat → Int32) (S : TS) : Nat → Int32 := fun a => if a &&& (15 - sD S) = a then wgV nw nf fl x S a else 0
theorem wr_T {nw nf : Nat} {fl x : Nat → Int32} {S : TS} {a : Nat} (h : a &&& (15 - sD S) = a) : wgR nw nf fl x S a = 20 - clR nw nf fl x (dvS S (15 - a)) 20 := by
  unfold wgR
  rw [if_pos h]
  unfold wgV
  rw [cl_eq]
  rfl
theorem or16 : ∀ d, d < 16 → ∀ a, a < 16 → nI d ||| nI a = nI (d ||| a) := by decide +kernel
theorem or_lt : ∀ d, d < 16 → ∀ a, a < 16 → d ||| a < 16 := by decide +kernel
theorem pcn_sub : ∀ d, d < 16 → ∀ a, a < 16 → a &&& (15 - d) = a → pcn a ≤ pcn (15 - d) := by decide +kernel
/-- so many of 10 ^ (those alive), as the reference sums them: over the sets that die -/
def loR (nw nf : Nat) (fl x : Nat → Int32) (S : TS) (v : Nat) : Nat → Nat
  | 0 => 0
  | a + 1 => if a &&& (15 - sD S) = a ∧ clR nw nf fl x (dvS S (sD S ||| a)) 20 = 0 then loR nw nf fl x S v a + v ^ pcn a * (10 - v) ^ (pcn (15 - sD S) - pcn a) else loR nw nf fl x S v a
theorem lr_le {nw nf : Nat} {fl x : Nat → Int32} {S : TS} {v : Nat} (hv9 : v ≤ 10) : ∀ a, loR nw nf fl x S v a ≤ a * 100000000
  | 0 => by simp [loR]
  | a + 1 => by
    have ih := lr_le (nw := nw) (nf := nf) (fl := fl) (x := x) (S := S) hv9 a
    have h1 : v ^ pcn a * (10 - v) ^ (pcn (15 - sD S) - pcn a) ≤ 100000000 := Nat.le_trans (Nat.mul_le_mul (p10_le hv9 (pcn_4 a)) (p10_le (show 10 - v ≤ 10 by omega) (Nat.le_trans (Nat.sub_le _ _) (pcn_4 (15 - sD S))))) (by decide)
    rw [Nat.succ_mul]
    by_cases c : a &&& (15 - sD S) = a ∧ clR nw nf fl x (dvS S (sD S ||| a)) 20 = 0
    · rw [loR, if_pos c]
      exact Nat.add_le_add ih h1
    · rw [loR, if_neg c]
      exact Nat.le_trans ih (Nat.le_add_right _ _)
theorem lr_lt {nw nf : Nat} {fl x : Nat → Int32} {S : TS} {v : Nat} (hv9 : v ≤ 10) : loR nw nf fl x S v 16 < 2 ^ 31 := Nat.lt_of_le_of_lt (lr_le hv9 16) (by decide)
theorem dX6_does_0 : decode cX6_does 0 = .ok (.iload_n 1, 1) := by decide +kernel
theorem dX6_does_1 : decode cX6_does 1 = .ok (.bipush 100, 2) := by decide +kernel
theorem dX6_does_3 : decode cX6_does 3 = .ok (.idiv, 1) := by decide +kernel
theorem dX6_does_4 : decode cX6_does 4 = .ok (.bipush 10, 2) := by decide +kernel
theorem dX6_does_6 : decode cX6_does 6 = .ok (.irem, 1) := by decide +kernel
theorem dX6_does_7 : decode cX6_does 7 = .ok (.istore_n 2, 1) := by decide +kernel
theorem dX6_does_8 : decode cX6_does 8 = .ok (.iload_n 1, 1) := by decide +kernel
theorem dX6_does_9 : decode cX6_does 9 = .ok (.bipush 10, 2) := by decide +kernel
theorem dX6_does_11 : decode cX6_does 11 = .ok (.idiv, 1) := by decide +kernel
theorem dX6_does_12 : decode cX6_does 12 = .ok (.bipush 10, 2) := by decide +kernel
theorem dX6_does_14 : decode cX6_does 14 = .ok (.irem, 1) := by decide +kernel
theorem dX6_does_15 : decode cX6_does 15 = .ok (.istore_n 3, 1) := by decide +kernel
theorem dX6_does_16 : decode cX6_does 16 = .ok (.iload_n 1, 1) := by decide +kernel
theorem dX6_does_17 : decode cX6_does 17 = .ok (.bipush 10, 2) := by decide +kernel
theorem dX6_does_19 : decode cX6_does 19 = .ok (.irem, 1) := by decide +kernel
theorem dX6_does_20 : decode cX6_does 20 = .ok (.istore 4, 2) := by decide +kernel
theorem dX6_does_22 : decode cX6_does 22 = .ok (.iload_n 2, 1) := by decide +kernel
theorem dX6_does_23 : decode cX6_does 23 = .ok (.iconst 4, 1) := by decide +kernel
theorem dX6_does_24 : decode cX6_does 24 = .ok (.if_icmp .ge 7, 3) := by decide +kernel
theorem dX6_does_27 : decode cX6_does 27 = .ok (.iconst 1, 1) := by decide +kernel
theorem dX6_does_28 : decode cX6_does 28 = .ok (.goto 4, 3) := by decide +kernel
theorem dX6_does_31 : decode cX6_does 31 = .ok (.iconst 0, 1) := by decide +kernel
theorem dX6_does_32 : decode cX6_does 32 = .ok (.istore 5, 2) := by decide +kernel
theorem dX6_does_34 : decode cX6_does 34 = .ok (.iload 5, 2) := by decide +kernel
theorem dX6_does_36 : decode cX6_does 36 = .ok (.ifCond .eq 20, 3) := by decide +kernel
theorem dX6_does_39 : decode cX6_does 39 = .ok (.aload_n 0, 1) := by decide +kernel
theorem dX6_does_40 : decode cX6_does 40 = .ok (.getfield 32, 3) := by decide +kernel
theorem dX6_does_43 : decode cX6_does 43 = .ok (.iconst 0, 1) := by decide +kernel
theorem dX6_does_44 : decode cX6_does 44 = .ok (.iaload, 1) := by decide +kernel
theorem dX6_does_45 : decode cX6_does 45 = .ok (.iload_n 2, 1) := by decide +kernel
theorem dX6_does_46 : decode cX6_does 46 = .ok (.invokestatic 139, 3) := by decide +kernel
theorem dX6_does_49 : decode cX6_does 49 = .ok (.ifCond .eq 7, 3) := by decide +kernel
theorem dX6_does_52 : decode cX6_does 52 = .ok (.iconst 1, 1) := by decide +kernel
theorem dX6_does_53 : decode cX6_does 53 = .ok (.goto 4, 3) := by decide +kernel
theorem dX6_does_56 : decode cX6_does 56 = .ok (.iconst 0, 1) := by decide +kernel
theorem dX6_does_57 : decode cX6_does 57 = .ok (.istore 6, 2) := by decide +kernel
theorem dX6_does_59 : decode cX6_does 59 = .ok (.iload_n 1, 1) := by decide +kernel
theorem dX6_does_60 : decode cX6_does 60 = .ok (.sipush 1000, 3) := by decide +kernel
theorem dX6_does_63 : decode cX6_does 63 = .ok (.idiv, 1) := by decide +kernel
theorem dX6_does_64 : decode cX6_does 64 = .ok (.tableswitch 266 1 7 #[44, 80, 111, 143, 168, 219, 240], 44) := by decide +kernel
theorem dX6_does_108 : decode cX6_does 108 = .ok (.bipush 10, 2) := by decide +kernel
theorem dX6_does_110 : decode cX6_does 110 = .ok (.iload_n 2, 1) := by decide +kernel
theorem dX6_does_111 : decode cX6_does 111 = .ok (.imul, 1) := by decide +kernel
theorem dX6_does_112 : decode cX6_does 112 = .ok (.iload_n 3, 1) := by decide +kernel
theorem dX6_does_113 : decode cX6_does 113 = .ok (.iadd, 1) := by decide +kernel
theorem dX6_does_114 : decode cX6_does 114 = .ok (.ifCond .eq 8, 3) := by decide +kernel
theorem dX6_does_117 : decode cX6_does 117 = .ok (.iload 4, 2) := by decide +kernel
theorem dX6_does_119 : decode cX6_does 119 = .ok (.ifCond .eq 5, 3) := by decide +kernel
theorem dX6_does_122 : decode cX6_does 122 = .ok (.iconst 0, 1) := by decide +kernel
theorem dX6_does_123 : decode cX6_does 123 = .ok (.ireturn, 1) := by decide +kernel
theorem dX6_does_124 : decode cX6_does 124 = .ok (.aload_n 0, 1) := by decide +kernel
theorem dX6_does_125 : decode cX6_does 125 = .ok (.aload_n 0, 1) := by decide +kernel
theorem dX6_does_126 : decode cX6_does 126 = .ok (.getfield 32, 3) := by decide +kernel
theorem dX6_does_129 : decode cX6_does 129 = .ok (.aload_n 0, 1) := by decide +kernel
theorem dX6_does_130 : decode cX6_does 130 = .ok (.getfield 35, 3) := by decide +kernel
theorem dX6_does_133 : decode cX6_does 133 = .ok (.bipush 10, 2) := by decide +kernel
theorem dX6_does_135 : decode cX6_does 135 = .ok (.iload_n 2, 1) := by decide +kernel
theorem dX6_does_136 : decode cX6_does 136 = .ok (.imul, 1) := by decide +kernel
theorem dX6_does_137 : decode cX6_does 137 = .ok (.iload_n 3, 1) := by decide +kernel
theorem dX6_does_138 : decode cX6_does 138 = .ok (.iadd, 1) := by decide +kernel
theorem dX6_does_139 : decode cX6_does 139 = .ok (.invokevirtual 234, 3) := by decide +kernel
theorem dX6_does_142 : decode cX6_does 142 = .ok (.iconst 1, 1) := by decide +kernel
theorem dX6_does_143 : decode cX6_does 143 = .ok (.ireturn, 1) := by decide +kernel
theorem dX6_does_144 : decode cX6_does 144 = .ok (.iload 5, 2) := by decide +kernel
theorem dX6_does_146 : decode cX6_does 146 = .ok (.ifCond .eq 17, 3) := by decide +kernel
theorem dX6_does_149 : decode cX6_does 149 = .ok (.iload 6, 2) := by decide +kernel
theorem dX6_does_151 : decode cX6_does 151 = .ok (.ifCond .ne 12, 3) := by decide +kernel
theorem dX6_does_154 : decode cX6_does 154 = .ok (.iload_n 3, 1) := by decide +kernel
theorem dX6_does_155 : decode cX6_does 155 = .ok (.ifCond .ne 8, 3) := by decide +kernel
theorem dX6_does_158 : decode cX6_does 158 = .ok (.iload 4, 2) := by decide +kernel
theorem dX6_does_160 : decode cX6_does 160 = .ok (.ifCond .eq 5, 3) := by decide +kernel
theorem dX6_does_163 : decode cX6_does 163 = .ok (.iconst 0, 1) := by decide +kernel
theorem dX6_does_164 : decode cX6_does 164 = .ok (.ireturn, 1) := by decide +kernel
theorem dX6_does_165 : decode cX6_does 165 = .ok (.aload_n 0, 1) := by decide +kernel
theorem dX6_does_166 : decode cX6_does 166 = .ok (.getfield 32, 3) := by decide +kernel
theorem dX6_does_169 : decode cX6_does 169 = .ok (.iload_n 2, 1) := by decide +kernel
theorem dX6_does_170 : decode cX6_does 170 = .ok (.invokestatic 237, 3) := by decide +kernel
theorem dX6_does_173 : decode cX6_does 173 = .ok (.iconst 1, 1) := by decide +kernel
theorem dX6_does_174 : decode cX6_does 174 = .ok (.ireturn, 1) := by decide +kernel
theorem dX6_does_175 : decode cX6_does 175 = .ok (.iload 6, 2) := by decide +kernel
theorem dX6_does_177 : decode cX6_does 177 = .ok (.ifCond .eq 12, 3) := by decide +kernel
theorem dX6_does_180 : decode cX6_does 180 = .ok (.iload_n 3, 1) := by decide +kernel
theorem dX6_does_181 : decode cX6_does 181 = .ok (.ifCond .ne 8, 3) := by decide +kernel
theorem dX6_does_184 : decode cX6_does 184 = .ok (.iload 4, 2) := by decide +kernel
theorem dX6_does_186 : decode cX6_does 186 = .ok (.ifCond .eq 5, 3) := by decide +kernel
theorem dX6_does_189 : decode cX6_does 189 = .ok (.iconst 0, 1) := by decide +kernel
theorem dX6_does_190 : decode cX6_does 190 = .ok (.ireturn, 1) := by decide +kernel
theorem dX6_does_191 : decode cX6_does 191 = .ok (.aload_n 0, 1) := by decide +kernel
theorem dX6_does_192 : decode cX6_does 192 = .ok (.getfield 32, 3) := by decide +kernel
theorem dX6_does_195 : decode cX6_does 195 = .ok (.iconst 0, 1) := by decide +kernel
theorem dX6_does_196 : decode cX6_does 196 = .ok (.dup2, 1) := by decide +kernel
theorem dX6_does_197 : decode cX6_does 197 = .ok (.iaload, 1) := by decide +kernel
theorem dX6_does_198 : decode cX6_does 198 = .ok (.iconst 1, 1) := by decide +kernel
theorem dX6_does_199 : decode cX6_does 199 = .ok (.iload_n 2, 1) := by decide +kernel
theorem dX6_does_200 : decode cX6_does 200 = .ok (.ishl, 1) := by decide +kernel
theorem dX6_does_201 : decode cX6_does 201 = .ok (.iconst (-1), 1) := by decide +kernel
theorem dX6_does_202 : decode cX6_does 202 = .ok (.ixor, 1) := by decide +kernel
theorem dX6_does_203 : decode cX6_does 203 = .ok (.iand, 1) := by decide +kernel
theorem dX6_does_204 : decode cX6_does 204 = .ok (.iastore, 1) := by decide +kernel
theorem dX6_does_205 : decode cX6_does 205 = .ok (.iconst 1, 1) := by decide +kernel
theorem dX6_does_206 : decode cX6_does 206 = .ok (.ireturn, 1) := by decide +kernel
theorem dX6_does_207 : decode cX6_does 207 = .ok (.iload_n 2, 1) := by decide +kernel
theorem dX6_does_208 : decode cX6_does 208 = .ok (.ifCond .ne 22, 3) := by decide +kernel
theorem dX6_does_211 : decode cX6_does 211 = .ok (.iload_n 3, 1) := by decide +kernel
theorem dX6_does_212 : decode cX6_does 212 = .ok (.ifCond .ne 18, 3) := by decide +kernel
theorem dX6_does_215 : decode cX6_does 215 = .ok (.aload_n 0, 1) := by decide +kernel
theorem dX6_does_216 : decode cX6_does 216 = .ok (.getfield 32, 3) := by decide +kernel
theorem dX6_does_219 : decode cX6_does 219 = .ok (.iconst 1, 1) := by decide +kernel
theorem dX6_does_220 : decode cX6_does 220 = .ok (.iaload, 1) := by decide +kernel
theorem dX6_does_221 : decode cX6_does 221 = .ok (.iload 4, 2) := by decide +kernel
theorem dX6_does_223 : decode cX6_does 223 = .ok (.if_icmp .ne 7, 3) := by decide +kernel
theorem dX6_does_226 : decode cX6_does 226 = .ok (.iconst 1, 1) := by decide +kernel
theorem dX6_does_227 : decode cX6_does 227 = .ok (.goto 4, 3) := by decide +kernel
theorem dX6_does_230 : decode cX6_does 230 = .ok (.iconst 0, 1) := by decide +kernel
theorem dX6_does_231 : decode cX6_does 231 = .ok (.ireturn, 1) := by decide +kernel
theorem dX6_does_232 : decode cX6_does 232 = .ok (.iload 5, 2) := by decide +kernel
theorem dX6_does_234 : decode cX6_does 234 = .ok (.ifCond .eq 47, 3) := by decide +kernel
theorem dX6_does_237 : decode cX6_does 237 = .ok (.iload_n 3, 1) := by decide +kernel
theorem dX6_does_238 : decode cX6_does 238 = .ok (.ifCond .ne 43, 3) := by decide +kernel
theorem dX6_does_241 : decode cX6_does 241 = .ok (.aload_n 0, 1) := by decide +kernel
theorem dX6_does_242 : decode cX6_does 242 = .ok (.getfield 35, 3) := by decide +kernel
theorem dX6_does_245 : decode cX6_does 245 = .ok (.iload_n 2, 1) := by decide +kernel
theorem dX6_does_246 : decode cX6_does 246 = .ok (.faload, 1) := by decide +kernel
theorem dX6_does_247 : decode cX6_does 247 = .ok (.fconst 0, 1) := by decide +kernel
theorem dX6_does_248 : decode cX6_does 248 = .ok (.fcmp .g, 1) := by decide +kernel
theorem dX6_does_249 : decode cX6_does 249 = .ok (.ifCond .ge 7, 3) := by decide +kernel
theorem dX6_does_252 : decode cX6_does 252 = .ok (.iconst 0, 1) := by decide +kernel
theorem dX6_does_253 : decode cX6_does 253 = .ok (.goto 19, 3) := by decide +kernel
theorem dX6_does_256 : decode cX6_does 256 = .ok (.aload_n 0, 1) := by decide +kernel
theorem dX6_does_257 : decode cX6_does 257 = .ok (.getfield 35, 3) := by decide +kernel
theorem dX6_does_260 : decode cX6_does 260 = .ok (.iload_n 2, 1) := by decide +kernel
theorem dX6_does_261 : decode cX6_does 261 = .ok (.faload, 1) := by decide +kernel
theorem dX6_does_262 : decode cX6_does 262 = .ok (.fconst 0, 1) := by decide +kernel
theorem dX6_does_263 : decode cX6_does 263 = .ok (.fcmp .l, 1) := by decide +kernel
theorem dX6_does_264 : decode cX6_does 264 = .ok (.ifCond .le 7, 3) := by decide +kernel
theorem dX6_does_267 : decode cX6_does 267 = .ok (.iconst 2, 1) := by decide +kernel
theorem dX6_does_268 : decode cX6_does 268 = .ok (.goto 4, 3) := by decide +kernel
theorem dX6_does_271 : decode cX6_does 271 = .ok (.iconst 1, 1) := by decide +kernel
theorem dX6_does_272 : decode cX6_does 272 = .ok (.iload 4, 2) := by decide +kernel
theorem dX6_does_274 : decode cX6_does 274 = .ok (.if_icmp .ne 7, 3) := by decide +kernel
theorem dX6_does_277 : decode cX6_does 277 = .ok (.iconst 1, 1) := by decide +kernel
theorem dX6_does_278 : decode cX6_does 278 = .ok (.goto 4, 3) := by decide +kernel
theorem dX6_does_281 : decode cX6_does 281 = .ok (.iconst 0, 1) := by decide +kernel
theorem dX6_does_282 : decode cX6_does 282 = .ok (.ireturn, 1) := by decide +kernel
theorem dX6_does_283 : decode cX6_does 283 = .ok (.iload_n 2, 1) := by decide +kernel
theorem dX6_does_284 : decode cX6_does 284 = .ok (.ifCond .ne 7, 3) := by decide +kernel
theorem dX6_does_287 : decode cX6_does 287 = .ok (.iload_n 3, 1) := by decide +kernel
theorem dX6_does_288 : decode cX6_does 288 = .ok (.ifCond .eq 5, 3) := by decide +kernel
theorem dX6_does_291 : decode cX6_does 291 = .ok (.iconst 0, 1) := by decide +kernel
theorem dX6_does_292 : decode cX6_does 292 = .ok (.ireturn, 1) := by decide +kernel
theorem dX6_does_293 : decode cX6_does 293 = .ok (.aload_n 0, 1) := by decide +kernel
theorem dX6_does_294 : decode cX6_does 294 = .ok (.getfield 32, 3) := by decide +kernel
theorem dX6_does_297 : decode cX6_does 297 = .ok (.bipush 9, 2) := by decide +kernel
theorem dX6_does_299 : decode cX6_does 299 = .ok (.iload 4, 2) := by decide +kernel
theorem dX6_does_301 : decode cX6_does 301 = .ok (.iastore, 1) := by decide +kernel
theorem dX6_does_302 : decode cX6_does 302 = .ok (.iconst 1, 1) := by decide +kernel
theorem dX6_does_303 : decode cX6_does 303 = .ok (.ireturn, 1) := by decide +kernel
theorem dX6_does_304 : decode cX6_does 304 = .ok (.iload 4, 2) := by decide +kernel
theorem dX6_does_306 : decode cX6_does 306 = .ok (.ifCond .ne 22, 3) := by decide +kernel
theorem dX6_does_309 : decode cX6_does 309 = .ok (.aload_n 0, 1) := by decide +kernel
theorem dX6_does_310 : decode cX6_does 310 = .ok (.getfield 32, 3) := by decide +kernel
theorem dX6_does_313 : decode cX6_does 313 = .ok (.iconst 2, 1) := by decide +kernel
theorem dX6_does_314 : decode cX6_does 314 = .ok (.iaload, 1) := by decide +kernel
theorem dX6_does_315 : decode cX6_does 315 = .ok (.bipush 10, 2) := by decide +kernel
theorem dX6_does_317 : decode cX6_does 317 = .ok (.iload_n 2, 1) := by decide +kernel
theorem dX6_does_318 : decode cX6_does 318 = .ok (.imul, 1) := by decide +kernel
theorem dX6_does_319 : decode cX6_does 319 = .ok (.iload_n 3, 1) := by decide +kernel
theorem dX6_does_320 : decode cX6_does 320 = .ok (.iadd, 1) := by decide +kernel
theorem dX6_does_321 : decode cX6_does 321 = .ok (.if_icmp .ne 7, 3) := by decide +kernel
theorem dX6_does_324 : decode cX6_does 324 = .ok (.iconst 1, 1) := by decide +kernel
theorem dX6_does_325 : decode cX6_does 325 = .ok (.goto 4, 3) := by decide +kernel
theorem dX6_does_328 : decode cX6_does 328 = .ok (.iconst 0, 1) := by decide +kernel
theorem dX6_does_329 : decode cX6_does 329 = .ok (.ireturn, 1) := by decide +kernel
theorem dX6_does_330 : decode cX6_does 330 = .ok (.iconst 0, 1) := by decide +kernel
theorem dX6_does_331 : decode cX6_does 331 = .ok (.ireturn, 1) := by decide +kernel
set_option maxRecDepth 20000 in
theorem ggX6_does_X6_tickMany : GoodIn wsX6_does wsX6_tickMany := goodIn_r _ [10, 11, 12, 13, 5, 14, 15, 16, 17, 18, 19, 20, 21, 22, 23, 24, 25, 26, 27, 28, 29, 30, 31, 32, 33, 34, 35, 36, 37, 38, 39, 40, 41, 42, 43, 3, 4, 6, 44, 45, 46, 47, 48, 49, 50, 51, 52, 53, 54, 55, 56, 57, 58, 59, 60, 61, 62, 63, 64, 65, 66, 67, 68, 69, 70, 71, 72, 73, 74, 75, 76, 77, 78, 79, 80, 81, 82, 86, 87, 88, 89, 90, 91, 92, 93, 94, 95, 96, 97, 98, 99, 100, 101, 102, 103, 104, 105, 106, 107, 108, 109, 110, 111, 112, 113, 114, 115, 116, 117, 118, 119, 120, 121] rfl (by decide +kernel)
set_option maxRecDepth 20000 in
theorem gX6_does_X6_tickMany : GoodIn wsX6_does (wsV RX6 234 RX6 yX6_tickMany wsX6_tickMany) := goodIn_app (goodIn_of _ (by decide +kernel)) ggX6_does_X6_tickMany
set_option maxRecDepth 20000 in
theorem ggX6_does_X6_has : GoodIn wsX6_does wsX6_has := goodIn_r _ [6] rfl (by decide +kernel)
set_option maxRecDepth 20000 in
theorem gX6_does_X6_has : GoodIn wsX6_does (va_wsS RX6 139 yX6_has wsX6_has) := goodIn_app (goodIn_of _ (by decide +kernel)) ggX6_does_X6_has
set_option maxRecDepth 20000 in
theorem ggX6_does_X6_killOn : GoodIn wsX6_does wsX6_killOn := goodIn_r _ [85, 64, 65, 5, 66] rfl (by decide +kernel)
set_option maxRecDepth 20000 in
theorem gX6_does_X6_killOn : GoodIn wsX6_does (va_wsS RX6 237 yX6_killOn wsX6_killOn) := goodIn_app (goodIn_of _ (by decide +kernel)) ggX6_does_X6_killOn
theorem inX6_does_X6 : ∀ w ∈ u_ws RX6 TX6 36, w ∈ wsX6_does := fun w h => List.mem_cons_of_mem _ (List.mem_append_right _ h)
set_option maxRecDepth 100000 in
set_option maxHeartbeats 4000000 in
theorem m_X6_does {l : Launch} {D : va_G} {E : Nat → ClassId} {T : Nat → Nat} (o : Nat) (xa : Nat) (fa : Nat) (wa : Nat) (la : Nat) (ta : Nat) (ma : Nat) (sa : Nat) (nw : Nat) (nf : Nat) (ua : Nat) (ya : Nat) (B : Nat) (u0 : Value) (u1 : Value) (u2 : Value) (u7 : Value) (u8 : Value) (u9 : Value) (u10 : Value) (u11 : Value) (u12 : Value) (u15 : Value) (u16 : Value) (u17 : Value) (u18 : Value) (u19 : Value) (u20 : Value) (u21 : Value) (u22 : Value) (u23 : Value) (u24 : Value) (u25 : Value) (u26 : Value) (u34 : Value) (fl : Nat → Int32) (S : TS) (K : RJ) (q : Nat) (hok : OkS B S) (hB : B + 99 < 2 ^ 31) (hnw : nw ≤ 6) (hnf : nf ≤ 6) (hq : q < 10000) : g_ME l D E T yX6_does wsX6_does 7 173 [.ref o, .int (nI q)] [(o, .inr (6, [u0, u1, u2, .ref xa, .int (nI nw), .int (nI nf), .ref fa, u7, u8, u9, u10, u11, u12, .ref ua, .ref ya, u15, u16, u17, u18, u19, u20, u21, u22, u23, u24, u25, u26, .ref wa, .ref la, .ref ta, .int (rS K), .int (rN K), .float (rH K), .ref ma, u34, .ref sa])), (xa, .inl (E 0, 12, .inl (g_tv 0))), (fa, .inl (E 0, 18, .inl fl)), (wa, .inl (E 0, 3, .inl (rW K))), (la, .inl (E 1, 4, .inr (.inr (.inl (rP K))))), (ta, .inl (E 1, 4, .inr (.inr (.inl (rT K))))), (ma, .inl (E 1, 3, .inr (.inr (.inl (rM K))))), (sa, .inl (E 0, 9, .inl (g_tv 1))), (ua, .inl (E 0, 29, .inl (pgF S))), (ya, .inl (E 1, 5, .inr (.inr (.inl (fl5 S)))))] (fun (K1 : RJ) => [(o, .inr (6, [u0, u1, u2, .ref xa, .int (nI nw), .int (nI nf), .ref fa, u7, u8, u9, u10, u11, u12, .ref ua, .ref ya, u15, u16, u17, u18, u19, u20, u21, u22, u23, u24, u25, u26, .ref wa, .ref la, .ref ta, .int (rS K1), .int (rN K1), .float (rH K1), .ref ma, u34, .ref sa])), (xa, .inl (E 0, 12, .inl (g_tv 0))), (fa, .inl (E 0, 18, .inl fl)), (wa, .inl (E 0, 3, .inl (rW K1))), (la, .inl (E 1, 4, .inr (.inr (.inl (rP K1))))), (ta, .inl (E 1, 4, .inr (.inr (.inl (rT K1))))), (ma, .inl (E 1, 3, .inr (.inr (.inl (rM K1))))), (sa, .inl (E 0, 9, .inl (g_tv 1))), (ua, .inl (E 0, 29, .inl (pgF (hdS nw nf fl (x3F 0 0 0) q S)))), (ya, .inl (E 1, 5, .inr (.inr (.inl (fl5 (hdS nw nf fl (x3F 0 0 0) q S))))))]) (some (.int (b2i (hdB q S)))) := by
  refine g_ME.of (cc := cX6_does) (nL := 7) (ret := (some .boolean)) (own := RX6) (lv := [(0, .ref o), (1, .int (nI q))]) (by decide) rfl rfl (Nat.le_of_ble_eq_true rfl) rfl ?_
  intro p e R s m args below meth c A Q H locs ls hR hQ hc hr hw hl
  have hx := hc.1
  have hb := hc.2.1
  have hts := hc.2.2.2.1
  have hown := hc.2.2.2.2.1
  refine lv_iload_n hx hb dX6_does_0 rfl (lv_at hl 1 rfl) ?_
  refine lv_bipush (v := 100) hx hb dX6_does_1 (by decide) ?_
  refine lv_idiv hx hb dX6_does_3 (by decide) ?_
  refine lv_bipush (v := 10) hx hb dX6_does_4 (by decide) ?_
  refine lv_irem hx hb dX6_does_6 (by decide) ?_
  refine W.eq (congrArg (fun z => F0 m 7 ls (.int z :: [])) (show (((nI q) / 100) - ((nI q) / 100) / 10 * 10 : Int32) = nI (q / 100 % 10) from (n_rem (n_div rfl rfl (by omega) (by omega) (by omega)) rfl (by omega) (by omega) (by omega)))) ?_
  refine lv_istore_n (lv' := [(2, .int (nI (q / 100 % 10))), (0, .ref o), (1, .int (nI q))]) hx hb dX6_does_7 rfl hl (by decide) rfl (fun ls hl => ?_)
  refine lv_iload_n hx hb dX6_does_8 rfl (lv_at hl 2 rfl) ?_
  refine lv_bipush (v := 10) hx hb dX6_does_9 (by decide) ?_
  refine lv_idiv hx hb dX6_does_11 (by decide) ?_
  refine lv_bipush (v := 10) hx hb dX6_does_12 (by decide) ?_
  refine lv_irem hx hb dX6_does_14 (by decide) ?_
  refine W.eq (congrArg (fun z => F0 m 15 ls (.int z :: [])) (show (((nI q) / 10) - ((nI q) / 10) / 10 * 10 : Int32) = nI (q / 10 % 10) from (n_rem (n_div rfl rfl (by omega) (by omega) (by omega)) rfl (by omega) (by omega) (by omega)))) ?_
  refine lv_istore_n (lv' := [(3, .int (nI (q / 10 % 10))), (2, .int (nI (q / 100 % 10))), (0, .ref o), (1, .int (nI q))]) hx hb dX6_does_15 rfl hl (by decide) rfl (fun ls hl => ?_)
  refine lv_iload_n hx hb dX6_does_16 rfl (lv_at hl 3 rfl) ?_
  refine lv_bipush (v := 10) hx hb dX6_does_17 (by decide) ?_
  refine lv_irem hx hb dX6_does_19 (by decide) ?_
  refine W.eq (congrArg (fun z => F0 m 20 ls (.int z :: [])) (show ((nI q) - (nI q) / 10 * 10 : Int32) = nI (q % 10) from (n_rem rfl rfl (by omega) (by omega) (by omega)))) ?_
  refine lv_istore (lv' := [(4, .int (nI (q % 10))), (3, .int (nI (q / 10 % 10))), (2, .int (nI (q / 100 % 10))), (0, .ref o), (1, .int (nI q))]) hx hb dX6_does_20 hl (by decide) rfl (fun ls hl => ?_)
  refine lv_iload_n hx hb dX6_does_22 rfl (lv_at hl 2 rfl) ?_
  refine lv_iconst (v := 4) hx hb dX6_does_23 (by decide) ?_
  refine lv_icmp_ge (tgt := 31) hx hb dX6_does_24 (by decide) (fun c_24 => ?_) (fun c_24 => ?_)
  · skip
    have n_24 : 4 ≤ (q / 100 % 10) := nf_geT rfl rfl (by omega) (by omega) c_24
    refine lv_iconst (v := 0) hx hb dX6_does_31 (by decide) ?_
    refine lv_istore (lv' := [(5, .int 0), (4, .int (nI (q % 10))), (3, .int (nI (q / 10 % 10))), (2, .int (nI (q / 100 % 10))), (0, .ref o), (1, .int (nI q))]) hx hb dX6_does_32 hl (by decide) rfl (fun ls hl => ?_)
    refine lv_iload hx hb dX6_does_34 (lv_at hl 0 rfl) ?_
    refine lv_if_eq (tgt := 56) hx hb dX6_does_36 (by decide) (fun c_36 => ?_) (fun c_36 => absurd c_36 (by decide))
    refine lv_iconst (v := 0) hx hb dX6_does_56 (by decide) ?_
    refine lv_istore (lv' := [(6, .int 0), (5, .int 0), (4, .int (nI (q % 10))), (3, .int (nI (q / 10 % 10))), (2, .int (nI (q / 100 % 10))), (0, .ref o), (1, .int (nI q))]) hx hb dX6_does_57 hl (by decide) rfl (fun ls hl => ?_)
    refine lv_iload_n hx hb dX6_does_59 rfl (lv_at hl 6 rfl) ?_
    refine lv_sipush (v := 1000) hx hb dX6_does_60 (by decide) ?_
    refine lv_idiv hx hb dX6_does_63 (by decide) ?_
    refine W.eq (congrArg (fun z => F0 m 64 ls (.int z :: [])) (show ((nI q) / 1000 : Int32) = nI (q / 1000) from (n_div rfl rfl (by omega) (by omega) (by omega)))) ?_
    by_cases y_1 : (nI (q / 1000)) = 1
    · skip
      refine lv_tableIn (off := 44) (tgt := 108) hx hb dX6_does_64 (by rw [y_1]; decide) (by rw [y_1]; decide) (by rw [y_1]; rfl) (by decide) ?_
      have m_1 : (q / 1000) = 1 := nf_eqT rfl rfl (by omega) (by decide) y_1
      refine lv_bipush (v := 10) hx hb dX6_does_108 (by decide) ?_
      refine lv_iload_n hx hb dX6_does_110 rfl (lv_at hl 4 rfl) ?_
      refine lv_imul hx hb dX6_does_111 ?_
      refine lv_iload_n hx hb dX6_does_112 rfl (lv_at hl 3 rfl) ?_
      refine lv_iadd hx hb dX6_does_113 ?_
      refine lv_if_eq (tgt := 122) hx hb dX6_does_114 (by decide) (fun c_114 => ?_) (fun c_114 => ?_)
      · skip
        have n_114 : ((10 * (q / 100 % 10)) + (q / 10 % 10)) = 0 := nf_eqT (n_add (n_mul rfl rfl) rfl) rfl (by omega) (by omega) c_114
        refine lv_iconst (v := 0) hx hb dX6_does_122 (by decide) ?_
        have hb9 : hdB q S = false := by rw [hdB, if_pos m_1]; exact decide_eq_false (by omega)
        have hs9 : hdS nw nf fl (x3F 0 0 0) q S = S := by rw [hdS, if_pos m_1, show t1P q = 0 from if_neg (by omega)]; rfl
        exact g_zretE K hQ hc hw hr (by exact congrArg (fun z => some (Value.int z)) (by rw [hb9]; rfl)) (by first | rfl | (split <;> rfl) | exact g_nb _) (by rw [hs9] <;> rfl) dX6_does_123
      · skip
        have n_114 : ¬ ((10 * (q / 100 % 10)) + (q / 10 % 10)) = 0 := nf_eqF (n_add (n_mul rfl rfl) rfl) rfl (by omega) (by omega) c_114
        refine lv_iload hx hb dX6_does_117 (lv_at hl 2 rfl) ?_
        refine lv_if_eq (tgt := 124) hx hb dX6_does_119 (by decide) (fun c_119 => ?_) (fun c_119 => ?_)
        · skip
          have n_119 : (q % 10) = 0 := nf_eqT rfl rfl (by omega) (by omega) c_119
          refine lv_aload_n hx hb dX6_does_124 rfl (lv_at hl 5 rfl) ?_
          refine lv_aload_n hx hb dX6_does_125 rfl (lv_at hl 5 rfl) ?_
          refine g_get (TT := TX6) hc hw inX6_does_X6 0 13 1 rfl rfl (by decide) rfl rfl dX6_does_126 ?_
          refine lv_aload_n hx hb dX6_does_129 rfl (lv_at hl 5 rfl) ?_
          refine g_get (TT := TX6) hc hw inX6_does_X6 0 14 2 rfl rfl (by decide) rfl rfl dX6_does_130 ?_
          refine lv_bipush (v := 10) hx hb dX6_does_133 (by decide) ?_
          refine lv_iload_n hx hb dX6_does_135 rfl (lv_at hl 4 rfl) ?_
          refine lv_imul hx hb dX6_does_136 ?_
          refine lv_iload_n hx hb dX6_does_137 rfl (lv_at hl 3 rfl) ?_
          refine lv_iadd hx hb dX6_does_138 ?_
          refine W.eq (congrArg (fun z => F0 m 139 ls (.int z :: [.ref ya, .ref ua, .ref o])) (show ((10 * (nI (q / 100 % 10))) + (nI (q / 10 % 10)) : Int32) = nI (10 * (q / 100 % 10) + q / 10 % 10) from (n_add (n_mul rfl rfl) rfl))) ?_
          refine g_cEV (As := [.ref ua, .ref ya, .int (nI (10 * (q / 100 % 10) + q / 10 % 10))]) (n := 3) (rest := []) (wc := [(o, .inr (6, [u0, u1, u2, .ref xa, .int (nI nw), .int (nI nf), .ref fa, u7, u8, u9, u10, u11, u12, .ref ua, .ref ya, u15, u16, u17, u18, u19, u20, u21, u22, u23, u24, u25, u26, .ref wa, .ref la, .ref ta, .int (rS K), .int (rN K), .float (rH K), .ref ma, u34, .ref sa])), (xa, .inl (E 0, 12, .inl (g_tv 0))), (fa, .inl (E 0, 18, .inl fl)), (wa, .inl (E 0, 3, .inl (rW K))), (la, .inl (E 1, 4, .inr (.inr (.inl (rP K))))), (ta, .inl (E 1, 4, .inr (.inr (.inl (rT K))))), (ma, .inl (E 1, 3, .inr (.inr (.inl (rM K))))), (sa, .inl (E 0, 9, .inl (g_tv 1))), (ua, .inl (E 0, 29, .inl (pgF S))), (ya, .inl (E 1, 5, .inr (.inr (.inl (fl5 S)))))]) (w1 := (fun (K1 : RJ) => [(o, .inr (6, [u0, u1, u2, .ref xa, .int (nI nw), .int (nI nf), .ref fa, u7, u8, u9, u10, u11, u12, .ref ua, .ref ya, u15, u16, u17, u18, u19, u20, u21, u22, u23, u24, u25, u26, .ref wa, .ref la, .ref ta, .int (rS K1), .int (rN K1), .float (rH K1), .ref ma, u34, .ref sa])), (xa, .inl (E 0, 12, .inl (g_tv 0))), (fa, .inl (E 0, 18, .inl fl)), (wa, .inl (E 0, 3, .inl (rW K1))), (la, .inl (E 1, 4, .inr (.inr (.inl (rP K1))))), (ta, .inl (E 1, 4, .inr (.inr (.inl (rT K1))))), (ma, .inl (E 1, 3, .inr (.inr (.inl (rM K1))))), (sa, .inl (E 0, 9, .inl (g_tv 1))), (ua, .inl (E 0, 29, .inl (pgF (tkN nw nf fl (x3F 0 0 0) S (10 * (q / 100 % 10) + q / 10 % 10))))), (ya, .inl (E 1, 5, .inr (.inr (.inl (fl5 (tkN nw nf fl (x3F 0 0 0) S (10 * (q / 100 % 10) + q / 10 % 10)))))))])) (bytes := cX6_tickMany) (maxL := 5) (ret := none) hc hw hl.1 (m_X6_tickMany_x (l := l) (D := D) (E := E) (T := T) o xa fa wa la ta ma sa ua ya nw nf B u0 u1 u2 u7 u8 u9 u10 u11 u12 (.ref ua) (.ref ya) u15 u16 u17 u18 u19 u20 u21 u22 u23 u24 u25 u26 u34 fl S K (10 * (q / 100 % 10) + q / 10 % 10) hok (by omega) (by first | assumption | omega | decide) (by first | assumption | omega | decide)) gX6_does_X6_tickMany rfl (by decide +kernel) (by rw [hR]; exact ⟨Nat.le_of_ble_eq_true rfl, Nat.le_of_ble_eq_true rfl⟩) [0, 1, 2, 3, 4, 5, 6, 7, 8, 9] 0 6 rfl rfl (by decide) rfl [o, xa, fa, wa, la, ta, ma, sa, ua, ya] (fun _ => rfl) rfl rfl rfl (Nat.le_of_ble_eq_true rfl) dX6_does_139 ⟨Nat.zero_le _, Nat.zero_le _⟩ (fun u_1 H locs hw => ?_)
          obtain ⟨K1_u_1, rfl⟩ : ∃ z, z = u_1 := ⟨_, rfl⟩
          have hw : g_W D A s [(o, .inr (6, [u0, u1, u2, .ref xa, .int (nI nw), .int (nI nf), .ref fa, u7, u8, u9, u10, u11, u12, .ref ua, .ref ya, u15, u16, u17, u18, u19, u20, u21, u22, u23, u24, u25, u26, .ref wa, .ref la, .ref ta, .int (rS K1_u_1), .int (rN K1_u_1), .float (rH K1_u_1), .ref ma, u34, .ref sa])), (xa, .inl (E 0, 12, .inl (g_tv 0))), (fa, .inl (E 0, 18, .inl fl)), (wa, .inl (E 0, 3, .inl (rW K1_u_1))), (la, .inl (E 1, 4, .inr (.inr (.inl (rP K1_u_1))))), (ta, .inl (E 1, 4, .inr (.inr (.inl (rT K1_u_1))))), (ma, .inl (E 1, 3, .inr (.inr (.inl (rM K1_u_1))))), (sa, .inl (E 0, 9, .inl (g_tv 1))), (ua, .inl (E 0, 29, .inl (pgF (tkN nw nf fl (x3F 0 0 0) S (10 * (q / 100 % 10) + q / 10 % 10))))), (ya, .inl (E 1, 5, .inr (.inr (.inl (fl5 (tkN nw nf fl (x3F 0 0 0) S (10 * (q / 100 % 10) + q / 10 % 10)))))))] H locs := hw
          refine lv_iconst (v := 1) hx hb dX6_does_142 (by decide) ?_
          have hb9 : hdB q S = true := by rw [hdB, if_pos m_1]; exact decide_eq_true (by omega)
          have hs9 : hdS nw nf fl (x3F 0 0 0) q S = tkN nw nf fl (x3F 0 0 0) S (10 * (q / 100 % 10) + q / 10 % 10) := by rw [hdS, if_pos m_1, show t1P q = _ from if_pos (by omega)]
          exact g_zretE K1_u_1 hQ hc hw hr (by exact congrArg (fun z => some (Value.int z)) (by rw [hb9]; rfl)) (by first | rfl | (split <;> rfl) | exact g_nb _) (by rw [hs9] <;> rfl) dX6_does_143
        · skip
          have n_119 : ¬ (q % 10) = 0 := nf_eqF rfl rfl (by omega) (by omega) c_119
          refine lv_iconst (v := 0) hx hb dX6_does_122 (by decide) ?_
          have hb9 : hdB q S = false := by rw [hdB, if_pos m_1]; exact decide_eq_false (by omega)
          have hs9 : hdS nw nf fl (x3F 0 0 0) q S = S := by rw [hdS, if_pos m_1, show t1P q = 0 from if_neg (by omega)]; rfl
          exact g_zretE K hQ hc hw hr (by exact congrArg (fun z => some (Value.int z)) (by rw [hb9]; rfl)) (by first | rfl | (split <;> rfl) | exact g_nb _) (by rw [hs9] <;> rfl) dX6_does_123
    have m_1 : ¬ (q / 1000) = 1 := nf_eqF rfl rfl (by omega) (by decide) y_1
    by_cases y_2 : (nI (q / 1000)) = 2
    · skip
      refine lv_tableIn (off := 80) (tgt := 144) hx hb dX6_does_64 (by rw [y_2]; decide) (by rw [y_2]; decide) (by rw [y_2]; rfl) (by decide) ?_
      have m_2 : (q / 1000) = 2 := nf_eqT rfl rfl (by omega) (by decide) y_2
      refine lv_iload hx hb dX6_does_144 (lv_at hl 1 rfl) ?_
      refine lv_if_eq (tgt := 163) hx hb dX6_does_146 (by decide) (fun c_146 => ?_) (fun c_146 => absurd c_146 (by decide))
      refine lv_iconst (v := 0) hx hb dX6_does_163 (by decide) ?_
      have hg9 : gpB (q / 1000) (q / 100 % 10) (q % 10) S = false := by rw [gpB_2 m_2]; rw [decide_eq_false (fun z => absurd z.2 (by omega)), Bool.false_and]
      have hb9 : hdB q S = false := by rw [hdB, if_neg (by omega), if_neg (by omega)]; rw [hg9, Bool.and_false]
      have hs9 : hdS nw nf fl (x3F 0 0 0) q S = S := by rw [hdS, if_neg (by omega), if_neg (by omega)]; split <;> first | exact gpS_f hg9 | rfl
      exact g_zretE K hQ hc hw hr (by exact congrArg (fun z => some (Value.int z)) (by rw [hb9]; rfl)) (by first | rfl | (split <;> rfl) | exact g_nb _) (by rw [hs9] <;> rfl) dX6_does_164
    have m_2 : ¬ (q / 1000) = 2 := nf_eqF rfl rfl (by omega) (by decide) y_2
    by_cases y_3 : (nI (q / 1000)) = 3
    · skip
      refine lv_tableIn (off := 111) (tgt := 175) hx hb dX6_does_64 (by rw [y_3]; decide) (by rw [y_3]; decide) (by rw [y_3]; rfl) (by decide) ?_
      have m_3 : (q / 1000) = 3 := nf_eqT rfl rfl (by omega) (by decide) y_3
      refine lv_iload hx hb dX6_does_175 (lv_at hl 0 rfl) ?_
      refine lv_if_eq (tgt := 189) hx hb dX6_does_177 (by decide) (fun c_177 => ?_) (fun c_177 => absurd c_177 (by decide))
      refine lv_iconst (v := 0) hx hb dX6_does_189 (by decide) ?_
      have hg9 : gpB (q / 1000) (q / 100 % 10) (q % 10) S = false := by rw [gpB_3 m_3]; rw [decide_eq_false (fun z => absurd z.2 (by omega)), Bool.false_and]
      have hb9 : hdB q S = false := by rw [hdB, if_neg (by omega), if_neg (by omega)]; rw [hg9, Bool.and_false]
      have hs9 : hdS nw nf fl (x3F 0 0 0) q S = S := by rw [hdS, if_neg (by omega), if_neg (by omega)]; split <;> first | exact gpS_f hg9 | rfl
      exact g_zretE K hQ hc hw hr (by exact congrArg (fun z => some (Value.int z)) (by rw [hb9]; rfl)) (by first | rfl | (split <;> rfl) | exact g_nb _) (by rw [hs9] <;> rfl) dX6_does_190
    have m_3 : ¬ (q / 1000) = 3 := nf_eqF rfl rfl (by omega) (by decide) y_3
    by_cases y_4 : (nI (q / 1000)) = 4
    · skip
      refine lv_tableIn (off := 143) (tgt := 207) hx hb dX6_does_64 (by rw [y_4]; decide) (by rw [y_4]; decide) (by rw [y_4]; rfl) (by decide) ?_
      have m_4 : (q / 1000) = 4 := nf_eqT rfl rfl (by omega) (by decide) y_4
      refine lv_iload_n hx hb dX6_does_207 rfl (lv_at hl 4 rfl) ?_
      refine lv_if_ne (tgt := 230) hx hb dX6_does_208 (by decide) (fun c_208 => ?_) (fun c_208 => ?_)
      · skip
        have n_208 : ¬ (q / 100 % 10) = 0 := nf_neT rfl rfl (by omega) (by omega) c_208
        refine lv_iconst (v := 0) hx hb dX6_does_230 (by decide) ?_
        have hg9 : gpB (q / 1000) (q / 100 % 10) (q % 10) S = false := by rw [gpB_4 m_4]; exact decide_eq_false (fun z => n_208 z.1)
        have hb9 : hdB q S = false := by rw [hdB, if_neg (by omega), if_neg (by omega)]; rw [hg9, Bool.and_false]
        have hs9 : hdS nw nf fl (x3F 0 0 0) q S = S := by rw [hdS, if_neg (by omega), if_neg (by omega)]; split <;> first | exact gpS_f hg9 | rfl
        exact g_zretE K hQ hc hw hr (by exact congrArg (fun z => some (Value.int z)) (by rw [hb9]; rfl)) (by first | rfl | (split <;> rfl) | exact g_nb _) (by rw [hs9] <;> rfl) dX6_does_231
      · skip
        have n_208 : (q / 100 % 10) = 0 := nf_neF rfl rfl (by omega) (by omega) c_208
        refine lv_iload_n hx hb dX6_does_211 rfl (lv_at hl 3 rfl) ?_
        refine lv_if_ne (tgt := 230) hx hb dX6_does_212 (by decide) (fun c_212 => ?_) (fun c_212 => ?_)
        · skip
          have n_212 : ¬ (q / 10 % 10) = 0 := nf_neT rfl rfl (by omega) (by omega) c_212
          refine lv_iconst (v := 0) hx hb dX6_does_230 (by decide) ?_
          have hb9 : hdB q S = false := by rw [hdB, if_neg (by omega), if_neg (by omega)]; rw [decide_eq_false (show ¬ q / 10 % 10 = 0 by omega), Bool.false_and]
          have hs9 : hdS nw nf fl (x3F 0 0 0) q S = S := by rw [hdS, if_neg (by omega), if_neg (by omega)]; exact if_neg (by omega)
          exact g_zretE K hQ hc hw hr (by exact congrArg (fun z => some (Value.int z)) (by rw [hb9]; rfl)) (by first | rfl | (split <;> rfl) | exact g_nb _) (by rw [hs9] <;> rfl) dX6_does_231
        · skip
          have n_212 : (q / 10 % 10) = 0 := nf_neF rfl rfl (by omega) (by omega) c_212
          refine lv_aload_n hx hb dX6_does_215 rfl (lv_at hl 5 rfl) ?_
          refine g_get (TT := TX6) hc hw inX6_does_X6 0 13 1 rfl rfl (by decide) rfl rfl dX6_does_216 ?_
          refine lv_iconst (v := 1) hx hb dX6_does_219 (by decide) ?_
          refine g_ild hc hw 8 1 rfl rfl (by omega) (by decide) dX6_does_220 ?_
          refine W.eq (congrArg (fun z => F0 m 221 ls (.int z :: [])) (show ((pgF S) 1 : Int32) = sM S from rfl)) ?_
          refine lv_iload hx hb dX6_does_221 (lv_at hl 2 rfl) ?_
          refine lv_icmp_ne (tgt := 230) hx hb dX6_does_223 (by decide) (fun c_223 => ?_) (fun c_223 => ?_)
          · skip
            refine lv_iconst (v := 0) hx hb dX6_does_230 (by decide) ?_
            have hg9 : gpB (q / 1000) (q / 100 % 10) (q % 10) S = false := by rw [gpB_4 m_4]; exact decide_eq_false (fun z => c_223 z.2)
            have hb9 : hdB q S = false := by rw [hdB, if_neg (by omega), if_neg (by omega)]; rw [hg9, Bool.and_false]
            have hs9 : hdS nw nf fl (x3F 0 0 0) q S = S := by rw [hdS, if_neg (by omega), if_neg (by omega)]; split <;> first | exact gpS_f hg9 | rfl
            exact g_zretE K hQ hc hw hr (by exact congrArg (fun z => some (Value.int z)) (by rw [hb9]; rfl)) (by first | rfl | (split <;> rfl) | exact g_nb _) (by rw [hs9] <;> rfl) dX6_does_231
          · skip
            refine lv_iconst (v := 1) hx hb dX6_does_226 (by decide) ?_
            refine lv_goto (tgt := 231) hx hb dX6_does_227 (by decide) ?_
            have hg9 : gpB (q / 1000) (q / 100 % 10) (q % 10) S = true := by rw [gpB_4 m_4]; exact decide_eq_true ⟨n_208, c_223⟩
            have hb9 : hdB q S = true := by rw [hdB, if_neg (by omega), if_neg (by omega)]; rw [hg9, decide_eq_true (show q / 10 % 10 = 0 by omega)]; rfl
            have hs9 : hdS nw nf fl (x3F 0 0 0) q S = S := by rw [hdS, if_neg (by omega), if_neg (by omega)]; rw [if_pos (show q / 10 % 10 = 0 by omega)]; exact gpS_o (by omega) (by omega) (by omega)
            exact g_zretE K hQ hc hw hr (by exact congrArg (fun z => some (Value.int z)) (by rw [hb9]; rfl)) (by first | rfl | (split <;> rfl) | exact g_nb _) (by rw [hs9] <;> rfl) dX6_does_231
    have m_4 : ¬ (q / 1000) = 4 := nf_eqF rfl rfl (by omega) (by decide) y_4
    by_cases y_5 : (nI (q / 1000)) = 5
    · skip
      refine lv_tableIn (off := 168) (tgt := 232) hx hb dX6_does_64 (by rw [y_5]; decide) (by rw [y_5]; decide) (by rw [y_5]; rfl) (by decide) ?_
      have m_5 : (q / 1000) = 5 := nf_eqT rfl rfl (by omega) (by decide) y_5
      refine lv_iload hx hb dX6_does_232 (lv_at hl 1 rfl) ?_
      refine lv_if_eq (tgt := 281) hx hb dX6_does_234 (by decide) (fun c_234 => ?_) (fun c_234 => absurd c_234 (by decide))
      refine lv_iconst (v := 0) hx hb dX6_does_281 (by decide) ?_
      have hg9 : gpB (q / 1000) (q / 100 % 10) (q % 10) S = false := by rw [gpB_5 m_5]; exact decide_eq_false (fun z => z.1 (by omega))
      have hb9 : hdB q S = false := by rw [hdB, if_neg (by omega), if_neg (by omega)]; rw [hg9, Bool.and_false]
      have hs9 : hdS nw nf fl (x3F 0 0 0) q S = S := by rw [hdS, if_neg (by omega), if_neg (by omega)]; split <;> first | exact gpS_f hg9 | rfl
      exact g_zretE K hQ hc hw hr (by exact congrArg (fun z => some (Value.int z)) (by rw [hb9]; rfl)) (by first | rfl | (split <;> rfl) | exact g_nb _) (by rw [hs9] <;> rfl) dX6_does_282
    have m_5 : ¬ (q / 1000) = 5 := nf_eqF rfl rfl (by omega) (by decide) y_5
    by_cases y_6 : (nI (q / 1000)) = 6
    · skip
      refine lv_tableIn (off := 219) (tgt := 283) hx hb dX6_does_64 (by rw [y_6]; decide) (by rw [y_6]; decide) (by rw [y_6]; rfl) (by decide) ?_
      have m_6 : (q / 1000) = 6 := nf_eqT rfl rfl (by omega) (by decide) y_6
      refine lv_iload_n hx hb dX6_does_283 rfl (lv_at hl 4 rfl) ?_
      refine lv_if_ne (tgt := 291) hx hb dX6_does_284 (by decide) (fun c_284 => ?_) (fun c_284 => ?_)
      · skip
        have n_284 : ¬ (q / 100 % 10) = 0 := nf_neT rfl rfl (by omega) (by omega) c_284
        refine lv_iconst (v := 0) hx hb dX6_does_291 (by decide) ?_
        have hg9 : gpB (q / 1000) (q / 100 % 10) (q % 10) S = false := by rw [gpB_6 m_6]; exact decide_eq_false n_284
        have hb9 : hdB q S = false := by rw [hdB, if_neg (by omega), if_neg (by omega)]; rw [hg9, Bool.and_false]
        have hs9 : hdS nw nf fl (x3F 0 0 0) q S = S := by rw [hdS, if_neg (by omega), if_neg (by omega)]; split <;> first | exact gpS_f hg9 | rfl
        exact g_zretE K hQ hc hw hr (by exact congrArg (fun z => some (Value.int z)) (by rw [hb9]; rfl)) (by first | rfl | (split <;> rfl) | exact g_nb _) (by rw [hs9] <;> rfl) dX6_does_292
      · skip
        have n_284 : (q / 100 % 10) = 0 := nf_neF rfl rfl (by omega) (by omega) c_284
        refine lv_iload_n hx hb dX6_does_287 rfl (lv_at hl 3 rfl) ?_
        refine lv_if_eq (tgt := 293) hx hb dX6_does_288 (by decide) (fun c_288 => ?_) (fun c_288 => ?_)
        · skip
          have n_288 : (q / 10 % 10) = 0 := nf_eqT rfl rfl (by omega) (by omega) c_288
          refine lv_aload_n hx hb dX6_does_293 rfl (lv_at hl 5 rfl) ?_
          refine g_get (TT := TX6) hc hw inX6_does_X6 0 13 1 rfl rfl (by decide) rfl rfl dX6_does_294 ?_
          refine lv_bipush (v := 9) hx hb dX6_does_297 (by decide) ?_
          refine lv_iload hx hb dX6_does_299 (lv_at hl 2 rfl) ?_
          refine g_ist hc hw 8 9 rfl rfl (by omega) (by decide) dX6_does_301 (fun H locs hw => ?_)
          have hw : g_W D A s [(o, .inr (6, [u0, u1, u2, .ref xa, .int (nI nw), .int (nI nf), .ref fa, u7, u8, u9, u10, u11, u12, .ref ua, .ref ya, u15, u16, u17, u18, u19, u20, u21, u22, u23, u24, u25, u26, .ref wa, .ref la, .ref ta, .int (rS K), .int (rN K), .float (rH K), .ref ma, u34, .ref sa])), (xa, .inl (E 0, 12, .inl (g_tv 0))), (fa, .inl (E 0, 18, .inl fl)), (wa, .inl (E 0, 3, .inl (rW K))), (la, .inl (E 1, 4, .inr (.inr (.inl (rP K))))), (ta, .inl (E 1, 4, .inr (.inr (.inl (rT K))))), (ma, .inl (E 1, 3, .inr (.inr (.inl (rM K))))), (sa, .inl (E 0, 9, .inl (g_tv 1))), (ua, .inl (E 0, 29, .inl (upd (pgF S) 9 (nI (q % 10))))), (ya, .inl (E 1, 5, .inr (.inr (.inl (fl5 S)))))] H locs := hw
          rw [pg_T9] at hw
          have hw : g_W D A s [(o, .inr (6, [u0, u1, u2, .ref xa, .int (nI nw), .int (nI nf), .ref fa, u7, u8, u9, u10, u11, u12, .ref ua, .ref ya, u15, u16, u17, u18, u19, u20, u21, u22, u23, u24, u25, u26, .ref wa, .ref la, .ref ta, .int (rS K), .int (rN K), .float (rH K), .ref ma, u34, .ref sa])), (xa, .inl (E 0, 12, .inl (g_tv 0))), (fa, .inl (E 0, 18, .inl fl)), (wa, .inl (E 0, 3, .inl (rW K))), (la, .inl (E 1, 4, .inr (.inr (.inl (rP K))))), (ta, .inl (E 1, 4, .inr (.inr (.inl (rT K))))), (ma, .inl (E 1, 3, .inr (.inr (.inl (rM K))))), (sa, .inl (E 0, 9, .inl (g_tv 1))), (ua, .inl (E 0, 29, .inl (pgF (stS S 2 (nI (q % 10)))))), (ya, .inl (E 1, 5, .inr (.inr (.inl (fl5 S)))))] H locs := hw
          refine lv_iconst (v := 1) hx hb dX6_does_302 (by decide) ?_
          have hg9 : gpB (q / 1000) (q / 100 % 10) (q % 10) S = true := by rw [gpB_6 m_6]; exact decide_eq_true n_284
          have hb9 : hdB q S = true := by rw [hdB, if_neg (by omega), if_neg (by omega)]; rw [hg9, decide_eq_true (show q / 10 % 10 = 0 by omega)]; rfl
          have hs9 : hdS nw nf fl (x3F 0 0 0) q S = stS S 2 (nI (q % 10)) := by rw [hdS, if_neg (by omega), if_neg (by omega)]; rw [if_pos (show q / 10 % 10 = 0 by omega)]; exact gpS_6 hg9 m_6
          exact g_zretE K hQ hc hw hr (by exact congrArg (fun z => some (Value.int z)) (by rw [hb9]; rfl)) (by first | rfl | (split <;> rfl) | exact g_nb _) (by rw [hs9] <;> rfl) dX6_does_303
        · skip
          have n_288 : ¬ (q / 10 % 10) = 0 := nf_eqF rfl rfl (by omega) (by omega) c_288
          refine lv_iconst (v := 0) hx hb dX6_does_291 (by decide) ?_
          have hb9 : hdB q S = false := by rw [hdB, if_neg (by omega), if_neg (by omega)]; rw [decide_eq_false (show ¬ q / 10 % 10 = 0 by omega), Bool.false_and]
          have hs9 : hdS nw nf fl (x3F 0 0 0) q S = S := by rw [hdS, if_neg (by omega), if_neg (by omega)]; exact if_neg (by omega)
          exact g_zretE K hQ hc hw hr (by exact congrArg (fun z => some (Value.int z)) (by rw [hb9]; rfl)) (by first | rfl | (split <;> rfl) | exact g_nb _) (by rw [hs9] <;> rfl) dX6_does_292
    have m_6 : ¬ (q / 1000) = 6 := nf_eqF rfl rfl (by omega) (by decide) y_6
    by_cases y_7 : (nI (q / 1000)) = 7
    · skip
      refine lv_tableIn (off := 240) (tgt := 304) hx hb dX6_does_64 (by rw [y_7]; decide) (by rw [y_7]; decide) (by rw [y_7]; rfl) (by decide) ?_
      have m_7 : (q / 1000) = 7 := nf_eqT rfl rfl (by omega) (by decide) y_7
      refine lv_iload hx hb dX6_does_304 (lv_at hl 2 rfl) ?_
      refine lv_if_ne (tgt := 328) hx hb dX6_does_306 (by decide) (fun c_306 => ?_) (fun c_306 => ?_)
      · skip
        have n_306 : ¬ (q % 10) = 0 := nf_neT rfl rfl (by omega) (by omega) c_306
        refine lv_iconst (v := 0) hx hb dX6_does_328 (by decide) ?_
        have hb9 : hdB q S = false := by rw [hdB, if_neg (by omega), if_pos m_7]; exact decide_eq_false (fun z => n_306 z.1)
        have hs9 : hdS nw nf fl (x3F 0 0 0) q S = S := by rw [hdS, if_neg (by omega), if_pos m_7]
        exact g_zretE K hQ hc hw hr (by exact congrArg (fun z => some (Value.int z)) (by rw [hb9]; rfl)) (by first | rfl | (split <;> rfl) | exact g_nb _) (by rw [hs9] <;> rfl) dX6_does_329
      · skip
        have n_306 : (q % 10) = 0 := nf_neF rfl rfl (by omega) (by omega) c_306
        refine lv_aload_n hx hb dX6_does_309 rfl (lv_at hl 5 rfl) ?_
        refine g_get (TT := TX6) hc hw inX6_does_X6 0 13 1 rfl rfl (by decide) rfl rfl dX6_does_310 ?_
        refine lv_iconst (v := 2) hx hb dX6_does_313 (by decide) ?_
        refine g_ild hc hw 8 2 rfl rfl (by omega) (by decide) dX6_does_314 ?_
        refine W.eq (congrArg (fun z => F0 m 315 ls (.int z :: [])) (show ((pgF S) 2 : Int32) = sI S from rfl)) ?_
        refine lv_bipush (v := 10) hx hb dX6_does_315 (by decide) ?_
        refine lv_iload_n hx hb dX6_does_317 rfl (lv_at hl 4 rfl) ?_
        refine lv_imul hx hb dX6_does_318 ?_
        refine lv_iload_n hx hb dX6_does_319 rfl (lv_at hl 3 rfl) ?_
        refine lv_iadd hx hb dX6_does_320 ?_
        refine W.eq (congrArg (fun z => F0 m 321 ls (.int z :: [.int (sI S)])) (show ((10 * (nI (q / 100 % 10))) + (nI (q / 10 % 10)) : Int32) = nI (10 * (q / 100 % 10) + q / 10 % 10) from (n_add (n_mul rfl rfl) rfl))) ?_
        refine lv_icmp_ne (tgt := 328) hx hb dX6_does_321 (by decide) (fun c_321 => ?_) (fun c_321 => ?_)
        · skip
          refine lv_iconst (v := 0) hx hb dX6_does_328 (by decide) ?_
          have hb9 : hdB q S = false := by rw [hdB, if_neg (by omega), if_pos m_7]; exact decide_eq_false (fun z => c_321 z.2)
          have hs9 : hdS nw nf fl (x3F 0 0 0) q S = S := by rw [hdS, if_neg (by omega), if_pos m_7]
          exact g_zretE K hQ hc hw hr (by exact congrArg (fun z => some (Value.int z)) (by rw [hb9]; rfl)) (by first | rfl | (split <;> rfl) | exact g_nb _) (by rw [hs9] <;> rfl) dX6_does_329
        · skip
          refine lv_iconst (v := 1) hx hb dX6_does_324 (by decide) ?_
          refine lv_goto (tgt := 329) hx hb dX6_does_325 (by decide) ?_
          have hb9 : hdB q S = true := by rw [hdB, if_neg (by omega), if_pos m_7]; exact decide_eq_true ⟨n_306, c_321⟩
          have hs9 : hdS nw nf fl (x3F 0 0 0) q S = S := by rw [hdS, if_neg (by omega), if_pos m_7]
          exact g_zretE K hQ hc hw hr (by exact congrArg (fun z => some (Value.int z)) (by rw [hb9]; rfl)) (by first | rfl | (split <;> rfl) | exact g_nb _) (by rw [hs9] <;> rfl) dX6_does_329
    have m_7 : ¬ (q / 1000) = 7 := nf_eqF rfl rfl (by omega) (by decide) y_7
    have z_1 := lv_neT (a := 1) y_1 (by decide)
    have z_2 := lv_neT (a := 2) y_2 (by decide)
    have z_3 := lv_neT (a := 3) y_3 (by decide)
    have z_4 := lv_neT (a := 4) y_4 (by decide)
    have z_5 := lv_neT (a := 5) y_5 (by decide)
    have z_6 := lv_neT (a := 6) y_6 (by decide)
    have z_7 := lv_neT (a := 7) y_7 (by decide)
    refine lv_tableOut (tgt := 330) hx hb dX6_does_64 (by omega) (by decide) ?_
    refine lv_iconst (v := 0) hx hb dX6_does_330 (by decide) ?_
    have hb9 : hdB q S = false := by rw [hdB, if_neg (by omega), if_neg (by omega)]; rw [gpB_o m_2 m_3 m_4 m_5 m_6, Bool.and_false]
    have hs9 : hdS nw nf fl (x3F 0 0 0) q S = S := by rw [hdS, if_neg (by omega), if_neg (by omega)]; split <;> first | exact gpS_o (by omega) (by omega) (by omega) | rfl
    exact g_zretE K hQ hc hw hr (by exact congrArg (fun z => some (Value.int z)) (by rw [hb9]; rfl)) (by first | rfl | (split <;> rfl) | exact g_nb _) (by rw [hs9] <;> rfl) dX6_does_331
  · skip
    have n_24 : (q / 100 % 10) < 4 := nf_geF rfl rfl (by omega) (by omega) c_24
    refine lv_iconst (v := 1) hx hb dX6_does_27 (by decide) ?_
    refine lv_goto (tgt := 32) hx hb dX6_does_28 (by decide) ?_
    refine lv_istore (lv' := [(5, .int 1), (4, .int (nI (q % 10))), (3, .int (nI (q / 10 % 10))), (2, .int (nI (q / 100 % 10))), (0, .ref o), (1, .int (nI q))]) hx hb dX6_does_32 hl (by decide) rfl (fun ls hl => ?_)
    refine lv_iload hx hb dX6_does_34 (lv_at hl 0 rfl) ?_
    refine lv_if_eq (tgt := 56) hx hb dX6_does_36 (by decide) (fun c_36 => absurd c_36 (by decide)) (fun c_36 => ?_)
    refine lv_aload_n hx hb dX6_does_39 rfl (lv_at hl 4 rfl) ?_
    refine g_get (TT := TX6) hc hw inX6_does_X6 0 13 1 rfl rfl (by decide) rfl rfl dX6_does_40 ?_
    refine lv_iconst (v := 0) hx hb dX6_does_43 (by decide) ?_
    refine g_ild hc hw 8 0 rfl rfl (by omega) (by decide) dX6_does_44 ?_
    refine W.eq (congrArg (fun z => F0 m 45 ls (.int z :: [])) (show ((pgF S) 0 : Int32) = nI (sD S) from rfl)) ?_
    refine lv_iload_n hx hb dX6_does_45 rfl (lv_at hl 3 rfl) ?_
    refine g_cS (As := [.int (nI (sD S)), .int (nI (q / 100 % 10))]) (n := 2) (rest := []) (wc := []) (w1 := []) (bytes := cX6_has) (maxL := 2) (ret := (some .boolean)) hc hw hl.1 (m_X6_has (l := l) (D := D) (E := E) (T := T) (sD S) (q / 100 % 10) hok.d (by omega)) gX6_does_X6_has rfl (by decide +kernel) (by rw [hR]; exact ⟨Nat.le_of_ble_eq_true rfl, Nat.le_of_ble_eq_true rfl⟩) [] (by decide) rfl [] rfl rfl rfl rfl (Nat.le_of_ble_eq_true rfl) dX6_does_46 ⟨Nat.zero_le _, Nat.zero_le _⟩ (fun H locs hw => ?_)
    have hw : g_W D A s [(o, .inr (6, [u0, u1, u2, .ref xa, .int (nI nw), .int (nI nf), .ref fa, u7, u8, u9, u10, u11, u12, .ref ua, .ref ya, u15, u16, u17, u18, u19, u20, u21, u22, u23, u24, u25, u26, .ref wa, .ref la, .ref ta, .int (rS K), .int (rN K), .float (rH K), .ref ma, u34, .ref sa])), (xa, .inl (E 0, 12, .inl (g_tv 0))), (fa, .inl (E 0, 18, .inl fl)), (wa, .inl (E 0, 3, .inl (rW K))), (la, .inl (E 1, 4, .inr (.inr (.inl (rP K))))), (ta, .inl (E 1, 4, .inr (.inr (.inl (rT K))))), (ma, .inl (E 1, 3, .inr (.inr (.inl (rM K))))), (sa, .inl (E 0, 9, .inl (g_tv 1))), (ua, .inl (E 0, 29, .inl (pgF S))), (ya, .inl (E 1, 5, .inr (.inr (.inl (fl5 S)))))] H locs := hw
    refine lv_if_eq (tgt := 56) hx hb dX6_does_49 (by decide) (fun c_49 => ?_) (fun c_49 => ?_)
    · skip
      have k_49 := b2i_eq c_49
      refine lv_iconst (v := 0) hx hb dX6_does_56 (by decide) ?_
      refine lv_istore (lv' := [(6, .int 0), (5, .int 1), (4, .int (nI (q % 10))), (3, .int (nI (q / 10 % 10))), (2, .int (nI (q / 100 % 10))), (0, .ref o), (1, .int (nI q))]) hx hb dX6_does_57 hl (by decide) rfl (fun ls hl => ?_)
      refine lv_iload_n hx hb dX6_does_59 rfl (lv_at hl 6 rfl) ?_
      refine lv_sipush (v := 1000) hx hb dX6_does_60 (by decide) ?_
      refine lv_idiv hx hb dX6_does_63 (by decide) ?_
      refine W.eq (congrArg (fun z => F0 m 64 ls (.int z :: [])) (show ((nI q) / 1000 : Int32) = nI (q / 1000) from (n_div rfl rfl (by omega) (by omega) (by omega)))) ?_
      by_cases y_1 : (nI (q / 1000)) = 1
      · skip
        refine lv_tableIn (off := 44) (tgt := 108) hx hb dX6_does_64 (by rw [y_1]; decide) (by rw [y_1]; decide) (by rw [y_1]; rfl) (by decide) ?_
        have m_1 : (q / 1000) = 1 := nf_eqT rfl rfl (by omega) (by decide) y_1
        refine lv_bipush (v := 10) hx hb dX6_does_108 (by decide) ?_
        refine lv_iload_n hx hb dX6_does_110 rfl (lv_at hl 4 rfl) ?_
        refine lv_imul hx hb dX6_does_111 ?_
        refine lv_iload_n hx hb dX6_does_112 rfl (lv_at hl 3 rfl) ?_
        refine lv_iadd hx hb dX6_does_113 ?_
        refine lv_if_eq (tgt := 122) hx hb dX6_does_114 (by decide) (fun c_114 => ?_) (fun c_114 => ?_)
        · skip
          have n_114 : ((10 * (q / 100 % 10)) + (q / 10 % 10)) = 0 := nf_eqT (n_add (n_mul rfl rfl) rfl) rfl (by omega) (by omega) c_114
          refine lv_iconst (v := 0) hx hb dX6_does_122 (by decide) ?_
          have hb9 : hdB q S = false := by rw [hdB, if_pos m_1]; exact decide_eq_false (by omega)
          have hs9 : hdS nw nf fl (x3F 0 0 0) q S = S := by rw [hdS, if_pos m_1, show t1P q = 0 from if_neg (by omega)]; rfl
          exact g_zretE K hQ hc hw hr (by exact congrArg (fun z => some (Value.int z)) (by rw [hb9]; rfl)) (by first | rfl | (split <;> rfl) | exact g_nb _) (by rw [hs9] <;> rfl) dX6_does_123
        · skip
          have n_114 : ¬ ((10 * (q / 100 % 10)) + (q / 10 % 10)) = 0 := nf_eqF (n_add (n_mul rfl rfl) rfl) rfl (by omega) (by omega) c_114
          refine lv_iload hx hb dX6_does_117 (lv_at hl 2 rfl) ?_
          refine lv_if_eq (tgt := 124) hx hb dX6_does_119 (by decide) (fun c_119 => ?_) (fun c_119 => ?_)
          · skip
            have n_119 : (q % 10) = 0 := nf_eqT rfl rfl (by omega) (by omega) c_119
            refine lv_aload_n hx hb dX6_does_124 rfl (lv_at hl 5 rfl) ?_
            refine lv_aload_n hx hb dX6_does_125 rfl (lv_at hl 5 rfl) ?_
            refine g_get (TT := TX6) hc hw inX6_does_X6 0 13 1 rfl rfl (by decide) rfl rfl dX6_does_126 ?_
            refine lv_aload_n hx hb dX6_does_129 rfl (lv_at hl 5 rfl) ?_
            refine g_get (TT := TX6) hc hw inX6_does_X6 0 14 2 rfl rfl (by decide) rfl rfl dX6_does_130 ?_
            refine lv_bipush (v := 10) hx hb dX6_does_133 (by decide) ?_
            refine lv_iload_n hx hb dX6_does_135 rfl (lv_at hl 4 rfl) ?_
            refine lv_imul hx hb dX6_does_136 ?_
            refine lv_iload_n hx hb dX6_does_137 rfl (lv_at hl 3 rfl) ?_
            refine lv_iadd hx hb dX6_does_138 ?_
            refine W.eq (congrArg (fun z => F0 m 139 ls (.int z :: [.ref ya, .ref ua, .ref o])) (show ((10 * (nI (q / 100 % 10))) + (nI (q / 10 % 10)) : Int32) = nI (10 * (q / 100 % 10) + q / 10 % 10) from (n_add (n_mul rfl rfl) rfl))) ?_
            refine g_cEV (As := [.ref ua, .ref ya, .int (nI (10 * (q / 100 % 10) + q / 10 % 10))]) (n := 3) (rest := []) (wc := [(o, .inr (6, [u0, u1, u2, .ref xa, .int (nI nw), .int (nI nf), .ref fa, u7, u8, u9, u10, u11, u12, .ref ua, .ref ya, u15, u16, u17, u18, u19, u20, u21, u22, u23, u24, u25, u26, .ref wa, .ref la, .ref ta, .int (rS K), .int (rN K), .float (rH K), .ref ma, u34, .ref sa])), (xa, .inl (E 0, 12, .inl (g_tv 0))), (fa, .inl (E 0, 18, .inl fl)), (wa, .inl (E 0, 3, .inl (rW K))), (la, .inl (E 1, 4, .inr (.inr (.inl (rP K))))), (ta, .inl (E 1, 4, .inr (.inr (.inl (rT K))))), (ma, .inl (E 1, 3, .inr (.inr (.inl (rM K))))), (sa, .inl (E 0, 9, .inl (g_tv 1))), (ua, .inl (E 0, 29, .inl (pgF S))), (ya, .inl (E 1, 5, .inr (.inr (.inl (fl5 S)))))]) (w1 := (fun (K1 : RJ) => [(o, .inr (6, [u0, u1, u2, .ref xa, .int (nI nw), .int (nI nf), .ref fa, u7, u8, u9, u10, u11, u12, .ref ua, .ref ya, u15, u16, u17, u18, u19, u20, u21, u22, u23, u24, u25, u26, .ref wa, .ref la, .ref ta, .int (rS K1), .int (rN K1), .float (rH K1), .ref ma, u34, .ref sa])), (xa, .inl (E 0, 12, .inl (g_tv 0))), (fa, .inl (E 0, 18, .inl fl)), (wa, .inl (E 0, 3, .inl (rW K1))), (la, .inl (E 1, 4, .inr (.inr (.inl (rP K1))))), (ta, .inl (E 1, 4, .inr (.inr (.inl (rT K1))))), (ma, .inl (E 1, 3, .inr (.inr (.inl (rM K1))))), (sa, .inl (E 0, 9, .inl (g_tv 1))), (ua, .inl (E 0, 29, .inl (pgF (tkN nw nf fl (x3F 0 0 0) S (10 * (q / 100 % 10) + q / 10 % 10))))), (ya, .inl (E 1, 5, .inr (.inr (.inl (fl5 (tkN nw nf fl (x3F 0 0 0) S (10 * (q / 100 % 10) + q / 10 % 10)))))))])) (bytes := cX6_tickMany) (maxL := 5) (ret := none) hc hw hl.1 (m_X6_tickMany_x (l := l) (D := D) (E := E) (T := T) o xa fa wa la ta ma sa ua ya nw nf B u0 u1 u2 u7 u8 u9 u10 u11 u12 (.ref ua) (.ref ya) u15 u16 u17 u18 u19 u20 u21 u22 u23 u24 u25 u26 u34 fl S K (10 * (q / 100 % 10) + q / 10 % 10) hok (by omega) (by first | assumption | omega | decide) (by first | assumption | omega | decide)) gX6_does_X6_tickMany rfl (by decide +kernel) (by rw [hR]; exact ⟨Nat.le_of_ble_eq_true rfl, Nat.le_of_ble_eq_true rfl⟩) [0, 1, 2, 3, 4, 5, 6, 7, 8, 9] 0 6 rfl rfl (by decide) rfl [o, xa, fa, wa, la, ta, ma, sa, ua, ya] (fun _ => rfl) rfl rfl rfl (Nat.le_of_ble_eq_true rfl) dX6_does_139 ⟨Nat.zero_le _, Nat.zero_le _⟩ (fun u_2 H locs hw => ?_)
            obtain ⟨K1_u_2, rfl⟩ : ∃ z, z = u_2 := ⟨_, rfl⟩
            have hw : g_W D A s [(o, .inr (6, [u0, u1, u2, .ref xa, .int (nI nw), .int (nI nf), .ref fa, u7, u8, u9, u10, u11, u12, .ref ua, .ref ya, u15, u16, u17, u18, u19, u20, u21, u22, u23, u24, u25, u26, .ref wa, .ref la, .ref ta, .int (rS K1_u_2), .int (rN K1_u_2), .float (rH K1_u_2), .ref ma, u34, .ref sa])), (xa, .inl (E 0, 12, .inl (g_tv 0))), (fa, .inl (E 0, 18, .inl fl)), (wa, .inl (E 0, 3, .inl (rW K1_u_2))), (la, .inl (E 1, 4, .inr (.inr (.inl (rP K1_u_2))))), (ta, .inl (E 1, 4, .inr (.inr (.inl (rT K1_u_2))))), (ma, .inl (E 1, 3, .inr (.inr (.inl (rM K1_u_2))))), (sa, .inl (E 0, 9, .inl (g_tv 1))), (ua, .inl (E 0, 29, .inl (pgF (tkN nw nf fl (x3F 0 0 0) S (10 * (q / 100 % 10) + q / 10 % 10))))), (ya, .inl (E 1, 5, .inr (.inr (.inl (fl5 (tkN nw nf fl (x3F 0 0 0) S (10 * (q / 100 % 10) + q / 10 % 10)))))))] H locs := hw
            refine lv_iconst (v := 1) hx hb dX6_does_142 (by decide) ?_
            have hb9 : hdB q S = true := by rw [hdB, if_pos m_1]; exact decide_eq_true (by omega)
            have hs9 : hdS nw nf fl (x3F 0 0 0) q S = tkN nw nf fl (x3F 0 0 0) S (10 * (q / 100 % 10) + q / 10 % 10) := by rw [hdS, if_pos m_1, show t1P q = _ from if_pos (by omega)]
            exact g_zretE K1_u_2 hQ hc hw hr (by exact congrArg (fun z => some (Value.int z)) (by rw [hb9]; rfl)) (by first | rfl | (split <;> rfl) | exact g_nb _) (by rw [hs9] <;> rfl) dX6_does_143
          · skip
            have n_119 : ¬ (q % 10) = 0 := nf_eqF rfl rfl (by omega) (by omega) c_119
            refine lv_iconst (v := 0) hx hb dX6_does_122 (by decide) ?_
            have hb9 : hdB q S = false := by rw [hdB, if_pos m_1]; exact decide_eq_false (by omega)
            have hs9 : hdS nw nf fl (x3F 0 0 0) q S = S := by rw [hdS, if_pos m_1, show t1P q = 0 from if_neg (by omega)]; rfl
            exact g_zretE K hQ hc hw hr (by exact congrArg (fun z => some (Value.int z)) (by rw [hb9]; rfl)) (by first | rfl | (split <;> rfl) | exact g_nb _) (by rw [hs9] <;> rfl) dX6_does_123
      have m_1 : ¬ (q / 1000) = 1 := nf_eqF rfl rfl (by omega) (by decide) y_1
      by_cases y_2 : (nI (q / 1000)) = 2
      · skip
        refine lv_tableIn (off := 80) (tgt := 144) hx hb dX6_does_64 (by rw [y_2]; decide) (by rw [y_2]; decide) (by rw [y_2]; rfl) (by decide) ?_
        have m_2 : (q / 1000) = 2 := nf_eqT rfl rfl (by omega) (by decide) y_2
        refine lv_iload hx hb dX6_does_144 (lv_at hl 1 rfl) ?_
        refine lv_if_eq (tgt := 163) hx hb dX6_does_146 (by decide) (fun c_146 => absurd c_146 (by decide)) (fun c_146 => ?_)
        refine lv_iload hx hb dX6_does_149 (lv_at hl 0 rfl) ?_
        refine lv_if_ne (tgt := 163) hx hb dX6_does_151 (by decide) (fun c_151 => absurd c_151 (by decide)) (fun c_151 => ?_)
        refine lv_iload_n hx hb dX6_does_154 rfl (lv_at hl 3 rfl) ?_
        refine lv_if_ne (tgt := 163) hx hb dX6_does_155 (by decide) (fun c_155 => ?_) (fun c_155 => ?_)
        · skip
          have n_155 : ¬ (q / 10 % 10) = 0 := nf_neT rfl rfl (by omega) (by omega) c_155
          refine lv_iconst (v := 0) hx hb dX6_does_163 (by decide) ?_
          have hb9 : hdB q S = false := by rw [hdB, if_neg (by omega), if_neg (by omega)]; rw [decide_eq_false (show ¬ q / 10 % 10 = 0 by omega), Bool.false_and]
          have hs9 : hdS nw nf fl (x3F 0 0 0) q S = S := by rw [hdS, if_neg (by omega), if_neg (by omega)]; exact if_neg (by omega)
          exact g_zretE K hQ hc hw hr (by exact congrArg (fun z => some (Value.int z)) (by rw [hb9]; rfl)) (by first | rfl | (split <;> rfl) | exact g_nb _) (by rw [hs9] <;> rfl) dX6_does_164
        · skip
          have n_155 : (q / 10 % 10) = 0 := nf_neF rfl rfl (by omega) (by omega) c_155
          refine lv_iload hx hb dX6_does_158 (lv_at hl 2 rfl) ?_
          refine lv_if_eq (tgt := 165) hx hb dX6_does_160 (by decide) (fun c_160 => ?_) (fun c_160 => ?_)
          · skip
            have n_160 : (q % 10) = 0 := nf_eqT rfl rfl (by omega) (by omega) c_160
            refine lv_aload_n hx hb dX6_does_165 rfl (lv_at hl 5 rfl) ?_
            refine g_get (TT := TX6) hc hw inX6_does_X6 0 13 1 rfl rfl (by decide) rfl rfl dX6_does_166 ?_
            refine lv_iload_n hx hb dX6_does_169 rfl (lv_at hl 4 rfl) ?_
            refine g_cS (As := [.ref ua, .int (nI (q / 100 % 10))]) (n := 2) (rest := []) (wc := [(ua, .inl (E 0, 29, .inl (pgF S)))]) (w1 := [(ua, .inl (E 0, 29, .inl (pgF (skS S (q / 100 % 10)))))]) (bytes := cX6_killOn) (maxL := 2) (ret := none) hc hw hl.1 (m_X6_killOn (l := l) (D := D) (E := E) (T := T) ua (q / 100 % 10) S hok.d (by omega)) gX6_does_X6_killOn rfl (by decide +kernel) (by rw [hR]; exact ⟨Nat.le_of_ble_eq_true rfl, Nat.le_of_ble_eq_true rfl⟩) [8] (by decide) rfl [ua] rfl rfl rfl rfl (Nat.le_of_ble_eq_true rfl) dX6_does_170 ⟨Nat.zero_le _, Nat.zero_le _⟩ (fun H locs hw => ?_)
            have hw : g_W D A s [(o, .inr (6, [u0, u1, u2, .ref xa, .int (nI nw), .int (nI nf), .ref fa, u7, u8, u9, u10, u11, u12, .ref ua, .ref ya, u15, u16, u17, u18, u19, u20, u21, u22, u23, u24, u25, u26, .ref wa, .ref la, .ref ta, .int (rS K), .int (rN K), .float (rH K), .ref ma, u34, .ref sa])), (xa, .inl (E 0, 12, .inl (g_tv 0))), (fa, .inl (E 0, 18, .inl fl)), (wa, .inl (E 0, 3, .inl (rW K))), (la, .inl (E 1, 4, .inr (.inr (.inl (rP K))))), (ta, .inl (E 1, 4, .inr (.inr (.inl (rT K))))), (ma, .inl (E 1, 3, .inr (.inr (.inl (rM K))))), (sa, .inl (E 0, 9, .inl (g_tv 1))), (ua, .inl (E 0, 29, .inl (pgF (skS S (q / 100 % 10))))), (ya, .inl (E 1, 5, .inr (.inr (.inl (fl5 S)))))] H locs := hw
            refine lv_iconst (v := 1) hx hb dX6_does_173 (by decide) ?_
            have hg9 : gpB (q / 1000) (q / 100 % 10) (q % 10) S = true := by rw [gpB_2 m_2]; rw [decide_eq_true ⟨n_160, (by omega)⟩, k_49]; rfl
            have hb9 : hdB q S = true := by rw [hdB, if_neg (by omega), if_neg (by omega)]; rw [hg9, decide_eq_true (show q / 10 % 10 = 0 by omega)]; rfl
            have hs9 : hdS nw nf fl (x3F 0 0 0) q S = skS S (q / 100 % 10) := by rw [hdS, if_neg (by omega), if_neg (by omega)]; rw [if_pos (show q / 10 % 10 = 0 by omega)]; exact gpS_2 hg9 m_2
            exact g_zretE K hQ hc hw hr (by exact congrArg (fun z => some (Value.int z)) (by rw [hb9]; rfl)) (by first | rfl | (split <;> rfl) | exact g_nb _) (by rw [hs9] <;> rfl) dX6_does_174
          · skip
            have n_160 : ¬ (q % 10) = 0 := nf_eqF rfl rfl (by omega) (by omega) c_160
            refine lv_iconst (v := 0) hx hb dX6_does_163 (by decide) ?_
            have hg9 : gpB (q / 1000) (q / 100 % 10) (q % 10) S = false := by rw [gpB_2 m_2]; rw [decide_eq_false (fun z => n_160 z.1), Bool.false_and]
            have hb9 : hdB q S = false := by rw [hdB, if_neg (by omega), if_neg (by omega)]; rw [hg9, Bool.and_false]
            have hs9 : hdS nw nf fl (x3F 0 0 0) q S = S := by rw [hdS, if_neg (by omega), if_neg (by omega)]; split <;> first | exact gpS_f hg9 | rfl
            exact g_zretE K hQ hc hw hr (by exact congrArg (fun z => some (Value.int z)) (by rw [hb9]; rfl)) (by first | rfl | (split <;> rfl) | exact g_nb _) (by rw [hs9] <;> rfl) dX6_does_164
      have m_2 : ¬ (q / 1000) = 2 := nf_eqF rfl rfl (by omega) (by decide) y_2
      by_cases y_3 : (nI (q / 1000)) = 3
      · skip
        refine lv_tableIn (off := 111) (tgt := 175) hx hb dX6_does_64 (by rw [y_3]; decide) (by rw [y_3]; decide) (by rw [y_3]; rfl) (by decide) ?_
        have m_3 : (q / 1000) = 3 := nf_eqT rfl rfl (by omega) (by decide) y_3
        refine lv_iload hx hb dX6_does_175 (lv_at hl 0 rfl) ?_
        refine lv_if_eq (tgt := 189) hx hb dX6_does_177 (by decide) (fun c_177 => ?_) (fun c_177 => absurd c_177 (by decide))
        refine lv_iconst (v := 0) hx hb dX6_does_189 (by decide) ?_
        have hg9 : gpB (q / 1000) (q / 100 % 10) (q % 10) S = false := by rw [gpB_3 m_3]; rw [k_49, Bool.and_false]
        have hb9 : hdB q S = false := by rw [hdB, if_neg (by omega), if_neg (by omega)]; rw [hg9, Bool.and_false]
        have hs9 : hdS nw nf fl (x3F 0 0 0) q S = S := by rw [hdS, if_neg (by omega), if_neg (by omega)]; split <;> first | exact gpS_f hg9 | rfl
        exact g_zretE K hQ hc hw hr (by exact congrArg (fun z => some (Value.int z)) (by rw [hb9]; rfl)) (by first | rfl | (split <;> rfl) | exact g_nb _) (by rw [hs9] <;> rfl) dX6_does_190
      have m_3 : ¬ (q / 1000) = 3 := nf_eqF rfl rfl (by omega) (by decide) y_3
      by_cases y_4 : (nI (q / 1000)) = 4
      · skip
        refine lv_tableIn (off := 143) (tgt := 207) hx hb dX6_does_64 (by rw [y_4]; decide) (by rw [y_4]; decide) (by rw [y_4]; rfl) (by decide) ?_
        have m_4 : (q / 1000) = 4 := nf_eqT rfl rfl (by omega) (by decide) y_4
        refine lv_iload_n hx hb dX6_does_207 rfl (lv_at hl 4 rfl) ?_
        refine lv_if_ne (tgt := 230) hx hb dX6_does_208 (by decide) (fun c_208 => ?_) (fun c_208 => ?_)
        · skip
          have n_208 : ¬ (q / 100 % 10) = 0 := nf_neT rfl rfl (by omega) (by omega) c_208
          refine lv_iconst (v := 0) hx hb dX6_does_230 (by decide) ?_
          have hg9 : gpB (q / 1000) (q / 100 % 10) (q % 10) S = false := by rw [gpB_4 m_4]; exact decide_eq_false (fun z => n_208 z.1)
          have hb9 : hdB q S = false := by rw [hdB, if_neg (by omega), if_neg (by omega)]; rw [hg9, Bool.and_false]
          have hs9 : hdS nw nf fl (x3F 0 0 0) q S = S := by rw [hdS, if_neg (by omega), if_neg (by omega)]; split <;> first | exact gpS_f hg9 | rfl
          exact g_zretE K hQ hc hw hr (by exact congrArg (fun z => some (Value.int z)) (by rw [hb9]; rfl)) (by first | rfl | (split <;> rfl) | exact g_nb _) (by rw [hs9] <;> rfl) dX6_does_231
        · skip
          have n_208 : (q / 100 % 10) = 0 := nf_neF rfl rfl (by omega) (by omega) c_208
          refine lv_iload_n hx hb dX6_does_211 rfl (lv_at hl 3 rfl) ?_
          refine lv_if_ne (tgt := 230) hx hb dX6_does_212 (by decide) (fun c_212 => ?_) (fun c_212 => ?_)
          · skip
            have n_212 : ¬ (q / 10 % 10) = 0 := nf_neT rfl rfl (by omega) (by omega) c_212
            refine lv_iconst (v := 0) hx hb dX6_does_230 (by decide) ?_
            have hb9 : hdB q S = false := by rw [hdB, if_neg (by omega), if_neg (by omega)]; rw [decide_eq_false (show ¬ q / 10 % 10 = 0 by omega), Bool.false_and]
            have hs9 : hdS nw nf fl (x3F 0 0 0) q S = S := by rw [hdS, if_neg (by omega), if_neg (by omega)]; exact if_neg (by omega)
            exact g_zretE K hQ hc hw hr (by exact congrArg (fun z => some (Value.int z)) (by rw [hb9]; rfl)) (by first | rfl | (split <;> rfl) | exact g_nb _) (by rw [hs9] <;> rfl) dX6_does_231
          · skip
            have n_212 : (q / 10 % 10) = 0 := nf_neF rfl rfl (by omega) (by omega) c_212
            refine lv_aload_n hx hb dX6_does_215 rfl (lv_at hl 5 rfl) ?_
            refine g_get (TT := TX6) hc hw inX6_does_X6 0 13 1 rfl rfl (by decide) rfl rfl dX6_does_216 ?_
            refine lv_iconst (v := 1) hx hb dX6_does_219 (by decide) ?_
            refine g_ild hc hw 8 1 rfl rfl (by omega) (by decide) dX6_does_220 ?_
            refine W.eq (congrArg (fun z => F0 m 221 ls (.int z :: [])) (show ((pgF S) 1 : Int32) = sM S from rfl)) ?_
            refine lv_iload hx hb dX6_does_221 (lv_at hl 2 rfl) ?_
            refine lv_icmp_ne (tgt := 230) hx hb dX6_does_223 (by decide) (fun c_223 => ?_) (fun c_223 => ?_)
            · skip
              refine lv_iconst (v := 0) hx hb dX6_does_230 (by decide) ?_
              have hg9 : gpB (q / 1000) (q / 100 % 10) (q % 10) S = false := by rw [gpB_4 m_4]; exact decide_eq_false (fun z => c_223 z.2)
              have hb9 : hdB q S = false := by rw [hdB, if_neg (by omega), if_neg (by omega)]; rw [hg9, Bool.and_false]
              have hs9 : hdS nw nf fl (x3F 0 0 0) q S = S := by rw [hdS, if_neg (by omega), if_neg (by omega)]; split <;> first | exact gpS_f hg9 | rfl
              exact g_zretE K hQ hc hw hr (by exact congrArg (fun z => some (Value.int z)) (by rw [hb9]; rfl)) (by first | rfl | (split <;> rfl) | exact g_nb _) (by rw [hs9] <;> rfl) dX6_does_231
            · skip
              refine lv_iconst (v := 1) hx hb dX6_does_226 (by decide) ?_
              refine lv_goto (tgt := 231) hx hb dX6_does_227 (by decide) ?_
              have hg9 : gpB (q / 1000) (q / 100 % 10) (q % 10) S = true := by rw [gpB_4 m_4]; exact decide_eq_true ⟨n_208, c_223⟩
              have hb9 : hdB q S = true := by rw [hdB, if_neg (by omega), if_neg (by omega)]; rw [hg9, decide_eq_true (show q / 10 % 10 = 0 by omega)]; rfl
              have hs9 : hdS nw nf fl (x3F 0 0 0) q S = S := by rw [hdS, if_neg (by omega), if_neg (by omega)]; rw [if_pos (show q / 10 % 10 = 0 by omega)]; exact gpS_o (by omega) (by omega) (by omega)
              exact g_zretE K hQ hc hw hr (by exact congrArg (fun z => some (Value.int z)) (by rw [hb9]; rfl)) (by first | rfl | (split <;> rfl) | exact g_nb _) (by rw [hs9] <;> rfl) dX6_does_231
      have m_4 : ¬ (q / 1000) = 4 := nf_eqF rfl rfl (by omega) (by decide) y_4
      by_cases y_5 : (nI (q / 1000)) = 5
      · skip
        refine lv_tableIn (off := 168) (tgt := 232) hx hb dX6_does_64 (by rw [y_5]; decide) (by rw [y_5]; decide) (by rw [y_5]; rfl) (by decide) ?_
        have m_5 : (q / 1000) = 5 := nf_eqT rfl rfl (by omega) (by decide) y_5
        refine lv_iload hx hb dX6_does_232 (lv_at hl 1 rfl) ?_
        refine lv_if_eq (tgt := 281) hx hb dX6_does_234 (by decide) (fun c_234 => absurd c_234 (by decide)) (fun c_234 => ?_)
        refine lv_iload_n hx hb dX6_does_237 rfl (lv_at hl 3 rfl) ?_
        refine lv_if_ne (tgt := 281) hx hb dX6_does_238 (by decide) (fun c_238 => ?_) (fun c_238 => ?_)
        · skip
          have n_238 : ¬ (q / 10 % 10) = 0 := nf_neT rfl rfl (by omega) (by omega) c_238
          refine lv_iconst (v := 0) hx hb dX6_does_281 (by decide) ?_
          have hb9 : hdB q S = false := by rw [hdB, if_neg (by omega), if_neg (by omega)]; rw [decide_eq_false (show ¬ q / 10 % 10 = 0 by omega), Bool.false_and]
          have hs9 : hdS nw nf fl (x3F 0 0 0) q S = S := by rw [hdS, if_neg (by omega), if_neg (by omega)]; exact if_neg (by omega)
          exact g_zretE K hQ hc hw hr (by exact congrArg (fun z => some (Value.int z)) (by rw [hb9]; rfl)) (by first | rfl | (split <;> rfl) | exact g_nb _) (by rw [hs9] <;> rfl) dX6_does_282
        · skip
          have n_238 : (q / 10 % 10) = 0 := nf_neF rfl rfl (by omega) (by omega) c_238
          refine lv_aload_n hx hb dX6_does_241 rfl (lv_at hl 5 rfl) ?_
          refine g_get (TT := TX6) hc hw inX6_does_X6 0 14 2 rfl rfl (by decide) rfl rfl dX6_does_242 ?_
          refine lv_iload_n hx hb dX6_does_245 rfl (lv_at hl 4 rfl) ?_
          refine g_fld hc hw 9 (q / 100 % 10) rfl rfl (by omega) (by decide) dX6_does_246 ?_
          refine W.eq (congrArg (fun z => F0 m 247 ls (.float z :: [])) (show ((fl5 S) (q / 100 % 10) : UInt32) = sF S (q / 100 % 10) from (fl5_lt _ (by omega)))) ?_
          refine lv_fconst0 hx hb dX6_does_247 ?_
          refine lv_fcmp hx hb dX6_does_248 ?_
          refine lv_if_ge (tgt := 256) hx hb dX6_does_249 (by decide) (fun c_249 => ?_) (fun c_249 => ?_)
          · skip
            have k_249 := g_cgl c_249
            refine lv_aload_n hx hb dX6_does_256 rfl (lv_at hl 5 rfl) ?_
            refine g_get (TT := TX6) hc hw inX6_does_X6 0 14 2 rfl rfl (by decide) rfl rfl dX6_does_257 ?_
            refine lv_iload_n hx hb dX6_does_260 rfl (lv_at hl 4 rfl) ?_
            refine g_fld hc hw 9 (q / 100 % 10) rfl rfl (by omega) (by decide) dX6_does_261 ?_
            refine W.eq (congrArg (fun z => F0 m 262 ls (.float z :: [])) (show ((fl5 S) (q / 100 % 10) : UInt32) = sF S (q / 100 % 10) from (fl5_lt _ (by omega)))) ?_
            refine lv_fconst0 hx hb dX6_does_262 ?_
            refine lv_fcmp hx hb dX6_does_263 ?_
            refine lv_if_le (tgt := 271) hx hb dX6_does_264 (by decide) (fun c_264 => ?_) (fun c_264 => ?_)
            · skip
              have k_264 := g_clg c_264
              refine lv_iconst (v := 1) hx hb dX6_does_271 (by decide) ?_
              refine lv_iload hx hb dX6_does_272 (lv_at hl 2 rfl) ?_
              refine lv_icmp_ne (tgt := 281) hx hb dX6_does_274 (by decide) (fun c_274 => ?_) (fun c_274 => ?_)
              · skip
                have n_274 : ¬ 1 = (q % 10) := nf_neT rfl rfl (by omega) (by omega) c_274
                refine lv_iconst (v := 0) hx hb dX6_does_281 (by decide) ?_
                have hg9 : gpB (q / 1000) (q / 100 % 10) (q % 10) S = false := by rw [gpB_5 m_5]; exact decide_eq_false (fun z => n_274 ((sg_z (show q % 10 < 10 by omega) k_249 k_264).mp z.2))
                have hb9 : hdB q S = false := by rw [hdB, if_neg (by omega), if_neg (by omega)]; rw [hg9, Bool.and_false]
                have hs9 : hdS nw nf fl (x3F 0 0 0) q S = S := by rw [hdS, if_neg (by omega), if_neg (by omega)]; split <;> first | exact gpS_f hg9 | rfl
                exact g_zretE K hQ hc hw hr (by exact congrArg (fun z => some (Value.int z)) (by rw [hb9]; rfl)) (by first | rfl | (split <;> rfl) | exact g_nb _) (by rw [hs9] <;> rfl) dX6_does_282
              · skip
                have n_274 : 1 = (q % 10) := nf_neF rfl rfl (by omega) (by omega) c_274
                refine lv_iconst (v := 1) hx hb dX6_does_277 (by decide) ?_
                refine lv_goto (tgt := 282) hx hb dX6_does_278 (by decide) ?_
                have hg9 : gpB (q / 1000) (q / 100 % 10) (q % 10) S = true := by rw [gpB_5 m_5]; exact decide_eq_true ⟨(by omega), (sg_z (show q % 10 < 10 by omega) k_249 k_264).mpr n_274⟩
                have hb9 : hdB q S = true := by rw [hdB, if_neg (by omega), if_neg (by omega)]; rw [hg9, decide_eq_true (show q / 10 % 10 = 0 by omega)]; rfl
                have hs9 : hdS nw nf fl (x3F 0 0 0) q S = S := by rw [hdS, if_neg (by omega), if_neg (by omega)]; rw [if_pos (show q / 10 % 10 = 0 by omega)]; exact gpS_o (by omega) (by omega) (by omega)
                exact g_zretE K hQ hc hw hr (by exact congrArg (fun z => some (Value.int z)) (by rw [hb9]; rfl)) (by first | rfl | (split <;> rfl) | exact g_nb _) (by rw [hs9] <;> rfl) dX6_does_282
            · skip
              have k_264 := g_clt c_264
              refine lv_iconst (v := 2) hx hb dX6_does_267 (by decide) ?_
              refine lv_goto (tgt := 272) hx hb dX6_does_268 (by decide) ?_
              refine lv_iload hx hb dX6_does_272 (lv_at hl 2 rfl) ?_
              refine lv_icmp_ne (tgt := 281) hx hb dX6_does_274 (by decide) (fun c_274 => ?_) (fun c_274 => ?_)
              · skip
                have n_274 : ¬ 2 = (q % 10) := nf_neT rfl rfl (by omega) (by omega) c_274
                refine lv_iconst (v := 0) hx hb dX6_does_281 (by decide) ?_
                have hg9 : gpB (q / 1000) (q / 100 % 10) (q % 10) S = false := by rw [gpB_5 m_5]; exact decide_eq_false (fun z => n_274 ((sg_p (show q % 10 < 10 by omega) k_249 k_264).mp z.2))
                have hb9 : hdB q S = false := by rw [hdB, if_neg (by omega), if_neg (by omega)]; rw [hg9, Bool.and_false]
                have hs9 : hdS nw nf fl (x3F 0 0 0) q S = S := by rw [hdS, if_neg (by omega), if_neg (by omega)]; split <;> first | exact gpS_f hg9 | rfl
                exact g_zretE K hQ hc hw hr (by exact congrArg (fun z => some (Value.int z)) (by rw [hb9]; rfl)) (by first | rfl | (split <;> rfl) | exact g_nb _) (by rw [hs9] <;> rfl) dX6_does_282
              · skip
                have n_274 : 2 = (q % 10) := nf_neF rfl rfl (by omega) (by omega) c_274
                refine lv_iconst (v := 1) hx hb dX6_does_277 (by decide) ?_
                refine lv_goto (tgt := 282) hx hb dX6_does_278 (by decide) ?_
                have hg9 : gpB (q / 1000) (q / 100 % 10) (q % 10) S = true := by rw [gpB_5 m_5]; exact decide_eq_true ⟨(by omega), (sg_p (show q % 10 < 10 by omega) k_249 k_264).mpr n_274⟩
                have hb9 : hdB q S = true := by rw [hdB, if_neg (by omega), if_neg (by omega)]; rw [hg9, decide_eq_true (show q / 10 % 10 = 0 by omega)]; rfl
                have hs9 : hdS nw nf fl (x3F 0 0 0) q S = S := by rw [hdS, if_neg (by omega), if_neg (by omega)]; rw [if_pos (show q / 10 % 10 = 0 by omega)]; exact gpS_o (by omega) (by omega) (by omega)
                exact g_zretE K hQ hc hw hr (by exact congrArg (fun z => some (Value.int z)) (by rw [hb9]; rfl)) (by first | rfl | (split <;> rfl) | exact g_nb _) (by rw [hs9] <;> rfl) dX6_does_282
          · skip
            have k_249 := g_cgt c_249
            refine lv_iconst (v := 0) hx hb dX6_does_252 (by decide) ?_
            refine lv_goto (tgt := 272) hx hb dX6_does_253 (by decide) ?_
            refine lv_iload hx hb dX6_does_272 (lv_at hl 2 rfl) ?_
            refine lv_icmp_ne (tgt := 281) hx hb dX6_does_274 (by decide) (fun c_274 => ?_) (fun c_274 => ?_)
            · skip
              have n_274 : ¬ 0 = (q % 10) := nf_neT rfl rfl (by omega) (by omega) c_274
              refine lv_iconst (v := 0) hx hb dX6_does_281 (by decide) ?_
              have hg9 : gpB (q / 1000) (q / 100 % 10) (q % 10) S = false := by rw [gpB_5 m_5]; exact decide_eq_false (fun z => n_274 ((sg_m (show q % 10 < 10 by omega) k_249).mp z.2))
              have hb9 : hdB q S = false := by rw [hdB, if_neg (by omega), if_neg (by omega)]; rw [hg9, Bool.and_false]
              have hs9 : hdS nw nf fl (x3F 0 0 0) q S = S := by rw [hdS, if_neg (by omega), if_neg (by omega)]; split <;> first | exact gpS_f hg9 | rfl
              exact g_zretE K hQ hc hw hr (by exact congrArg (fun z => some (Value.int z)) (by rw [hb9]; rfl)) (by first | rfl | (split <;> rfl) | exact g_nb _) (by rw [hs9] <;> rfl) dX6_does_282
            · skip
              have n_274 : 0 = (q % 10) := nf_neF rfl rfl (by omega) (by omega) c_274
              refine lv_iconst (v := 1) hx hb dX6_does_277 (by decide) ?_
              refine lv_goto (tgt := 282) hx hb dX6_does_278 (by decide) ?_
              have hg9 : gpB (q / 1000) (q / 100 % 10) (q % 10) S = true := by rw [gpB_5 m_5]; exact decide_eq_true ⟨(by omega), (sg_m (show q % 10 < 10 by omega) k_249).mpr n_274⟩
              have hb9 : hdB q S = true := by rw [hdB, if_neg (by omega), if_neg (by omega)]; rw [hg9, decide_eq_true (show q / 10 % 10 = 0 by omega)]; rfl
              have hs9 : hdS nw nf fl (x3F 0 0 0) q S = S := by rw [hdS, if_neg (by omega), if_neg (by omega)]; rw [if_pos (show q / 10 % 10 = 0 by omega)]; exact gpS_o (by omega) (by omega) (by omega)
              exact g_zretE K hQ hc hw hr (by exact congrArg (fun z => some (Value.int z)) (by rw [hb9]; rfl)) (by first | rfl | (split <;> rfl) | exact g_nb _) (by rw [hs9] <;> rfl) dX6_does_282
      have m_5 : ¬ (q / 1000) = 5 := nf_eqF rfl rfl (by omega) (by decide) y_5
      by_cases y_6 : (nI (q / 1000)) = 6
      · skip
        refine lv_tableIn (off := 219) (tgt := 283) hx hb dX6_does_64 (by rw [y_6]; decide) (by rw [y_6]; decide) (by rw [y_6]; rfl) (by decide) ?_
        have m_6 : (q / 1000) = 6 := nf_eqT rfl rfl (by omega) (by decide) y_6
        refine lv_iload_n hx hb dX6_does_283 rfl (lv_at hl 4 rfl) ?_
        refine lv_if_ne (tgt := 291) hx hb dX6_does_284 (by decide) (fun c_284 => ?_) (fun c_284 => ?_)
        · skip
          have n_284 : ¬ (q / 100 % 10) = 0 := nf_neT rfl rfl (by omega) (by omega) c_284
          refine lv_iconst (v := 0) hx hb dX6_does_291 (by decide) ?_
          have hg9 : gpB (q / 1000) (q / 100 % 10) (q % 10) S = false := by rw [gpB_6 m_6]; exact decide_eq_false n_284
          have hb9 : hdB q S = false := by rw [hdB, if_neg (by omega), if_neg (by omega)]; rw [hg9, Bool.and_false]
          have hs9 : hdS nw nf fl (x3F 0 0 0) q S = S := by rw [hdS, if_neg (by omega), if_neg (by omega)]; split <;> first | exact gpS_f hg9 | rfl
          exact g_zretE K hQ hc hw hr (by exact congrArg (fun z => some (Value.int z)) (by rw [hb9]; rfl)) (by first | rfl | (split <;> rfl) | exact g_nb _) (by rw [hs9] <;> rfl) dX6_does_292
        · skip
          have n_284 : (q / 100 % 10) = 0 := nf_neF rfl rfl (by omega) (by omega) c_284
          refine lv_iload_n hx hb dX6_does_287 rfl (lv_at hl 3 rfl) ?_
          refine lv_if_eq (tgt := 293) hx hb dX6_does_288 (by decide) (fun c_288 => ?_) (fun c_288 => ?_)
          · skip
            have n_288 : (q / 10 % 10) = 0 := nf_eqT rfl rfl (by omega) (by omega) c_288
            refine lv_aload_n hx hb dX6_does_293 rfl (lv_at hl 5 rfl) ?_
            refine g_get (TT := TX6) hc hw inX6_does_X6 0 13 1 rfl rfl (by decide) rfl rfl dX6_does_294 ?_
            refine lv_bipush (v := 9) hx hb dX6_does_297 (by decide) ?_
            refine lv_iload hx hb dX6_does_299 (lv_at hl 2 rfl) ?_
            refine g_ist hc hw 8 9 rfl rfl (by omega) (by decide) dX6_does_301 (fun H locs hw => ?_)
            have hw : g_W D A s [(o, .inr (6, [u0, u1, u2, .ref xa, .int (nI nw), .int (nI nf), .ref fa, u7, u8, u9, u10, u11, u12, .ref ua, .ref ya, u15, u16, u17, u18, u19, u20, u21, u22, u23, u24, u25, u26, .ref wa, .ref la, .ref ta, .int (rS K), .int (rN K), .float (rH K), .ref ma, u34, .ref sa])), (xa, .inl (E 0, 12, .inl (g_tv 0))), (fa, .inl (E 0, 18, .inl fl)), (wa, .inl (E 0, 3, .inl (rW K))), (la, .inl (E 1, 4, .inr (.inr (.inl (rP K))))), (ta, .inl (E 1, 4, .inr (.inr (.inl (rT K))))), (ma, .inl (E 1, 3, .inr (.inr (.inl (rM K))))), (sa, .inl (E 0, 9, .inl (g_tv 1))), (ua, .inl (E 0, 29, .inl (upd (pgF S) 9 (nI (q % 10))))), (ya, .inl (E 1, 5, .inr (.inr (.inl (fl5 S)))))] H locs := hw
            rw [pg_T9] at hw
            have hw : g_W D A s [(o, .inr (6, [u0, u1, u2, .ref xa, .int (nI nw), .int (nI nf), .ref fa, u7, u8, u9, u10, u11, u12, .ref ua, .ref ya, u15, u16, u17, u18, u19, u20, u21, u22, u23, u24, u25, u26, .ref wa, .ref la, .ref ta, .int (rS K), .int (rN K), .float (rH K), .ref ma, u34, .ref sa])), (xa, .inl (E 0, 12, .inl (g_tv 0))), (fa, .inl (E 0, 18, .inl fl)), (wa, .inl (E 0, 3, .inl (rW K))), (la, .inl (E 1, 4, .inr (.inr (.inl (rP K))))), (ta, .inl (E 1, 4, .inr (.inr (.inl (rT K))))), (ma, .inl (E 1, 3, .inr (.inr (.inl (rM K))))), (sa, .inl (E 0, 9, .inl (g_tv 1))), (ua, .inl (E 0, 29, .inl (pgF (stS S 2 (nI (q % 10)))))), (ya, .inl (E 1, 5, .inr (.inr (.inl (fl5 S)))))] H locs := hw
            refine lv_iconst (v := 1) hx hb dX6_does_302 (by decide) ?_
            have hg9 : gpB (q / 1000) (q / 100 % 10) (q % 10) S = true := by rw [gpB_6 m_6]; exact decide_eq_true n_284
            have hb9 : hdB q S = true := by rw [hdB, if_neg (by omega), if_neg (by omega)]; rw [hg9, decide_eq_true (show q / 10 % 10 = 0 by omega)]; rfl
            have hs9 : hdS nw nf fl (x3F 0 0 0) q S = stS S 2 (nI (q % 10)) := by rw [hdS, if_neg (by omega), if_neg (by omega)]; rw [if_pos (show q / 10 % 10 = 0 by omega)]; exact gpS_6 hg9 m_6
            exact g_zretE K hQ hc hw hr (by exact congrArg (fun z => some (Value.int z)) (by rw [hb9]; rfl)) (by first | rfl | (split <;> rfl) | exact g_nb _) (by rw [hs9] <;> rfl) dX6_does_303
          · skip
            have n_288 : ¬ (q / 10 % 10) = 0 := nf_eqF rfl rfl (by omega) (by omega) c_288
            refine lv_iconst (v := 0) hx hb dX6_does_291 (by decide) ?_
            have hb9 : hdB q S = false := by rw [hdB, if_neg (by omega), if_neg (by omega)]; rw [decide_eq_false (show ¬ q / 10 % 10 = 0 by omega), Bool.false_and]
            have hs9 : hdS nw nf fl (x3F 0 0 0) q S = S := by rw [hdS, if_neg (by omega), if_neg (by omega)]; exact if_neg (by omega)
            exact g_zretE K hQ hc hw hr (by exact congrArg (fun z => some (Value.int z)) (by rw [hb9]; rfl)) (by first | rfl | (split <;> rfl) | exact g_nb _) (by rw [hs9] <;> rfl) dX6_does_292
      have m_6 : ¬ (q / 1000) = 6 := nf_eqF rfl rfl (by omega) (by decide) y_6
      by_cases y_7 : (nI (q / 1000)) = 7
      · skip
        refine lv_tableIn (off := 240) (tgt := 304) hx hb dX6_does_64 (by rw [y_7]; decide) (by rw [y_7]; decide) (by rw [y_7]; rfl) (by decide) ?_
        have m_7 : (q / 1000) = 7 := nf_eqT rfl rfl (by omega) (by decide) y_7
        refine lv_iload hx hb dX6_does_304 (lv_at hl 2 rfl) ?_
        refine lv_if_ne (tgt := 328) hx hb dX6_does_306 (by decide) (fun c_306 => ?_) (fun c_306 => ?_)
        · skip
          have n_306 : ¬ (q % 10) = 0 := nf_neT rfl rfl (by omega) (by omega) c_306
          refine lv_iconst (v := 0) hx hb dX6_does_328 (by decide) ?_
          have hb9 : hdB q S = false := by rw [hdB, if_neg (by omega), if_pos m_7]; exact decide_eq_false (fun z => n_306 z.1)
          have hs9 : hdS nw nf fl (x3F 0 0 0) q S = S := by rw [hdS, if_neg (by omega), if_pos m_7]
          exact g_zretE K hQ hc hw hr (by exact congrArg (fun z => some (Value.int z)) (by rw [hb9]; rfl)) (by first | rfl | (split <;> rfl) | exact g_nb _) (by rw [hs9] <;> rfl) dX6_does_329
        · skip
          have n_306 : (q % 10) = 0 := nf_neF rfl rfl (by omega) (by omega) c_306
          refine lv_aload_n hx hb dX6_does_309 rfl (lv_at hl 5 rfl) ?_
          refine g_get (TT := TX6) hc hw inX6_does_X6 0 13 1 rfl rfl (by decide) rfl rfl dX6_does_310 ?_
          refine lv_iconst (v := 2) hx hb dX6_does_313 (by decide) ?_
          refine g_ild hc hw 8 2 rfl rfl (by omega) (by decide) dX6_does_314 ?_
          refine W.eq (congrArg (fun z => F0 m 315 ls (.int z :: [])) (show ((pgF S) 2 : Int32) = sI S from rfl)) ?_
          refine lv_bipush (v := 10) hx hb dX6_does_315 (by decide) ?_
          refine lv_iload_n hx hb dX6_does_317 rfl (lv_at hl 4 rfl) ?_
          refine lv_imul hx hb dX6_does_318 ?_
          refine lv_iload_n hx hb dX6_does_319 rfl (lv_at hl 3 rfl) ?_
          refine lv_iadd hx hb dX6_does_320 ?_
          refine W.eq (congrArg (fun z => F0 m 321 ls (.int z :: [.int (sI S)])) (show ((10 * (nI (q / 100 % 10))) + (nI (q / 10 % 10)) : Int32) = nI (10 * (q / 100 % 10) + q / 10 % 10) from (n_add (n_mul rfl rfl) rfl))) ?_
          refine lv_icmp_ne (tgt := 328) hx hb dX6_does_321 (by decide) (fun c_321 => ?_) (fun c_321 => ?_)
          · skip
            refine lv_iconst (v := 0) hx hb dX6_does_328 (by decide) ?_
            have hb9 : hdB q S = false := by rw [hdB, if_neg (by omega), if_pos m_7]; exact decide_eq_false (fun z => c_321 z.2)
            have hs9 : hdS nw nf fl (x3F 0 0 0) q S = S := by rw [hdS, if_neg (by omega), if_pos m_7]
            exact g_zretE K hQ hc hw hr (by exact congrArg (fun z => some (Value.int z)) (by rw [hb9]; rfl)) (by first | rfl | (split <;> rfl) | exact g_nb _) (by rw [hs9] <;> rfl) dX6_does_329
          · skip
            refine lv_iconst (v := 1) hx hb dX6_does_324 (by decide) ?_
            refine lv_goto (tgt := 329) hx hb dX6_does_325 (by decide) ?_
            have hb9 : hdB q S = true := by rw [hdB, if_neg (by omega), if_pos m_7]; exact decide_eq_true ⟨n_306, c_321⟩
            have hs9 : hdS nw nf fl (x3F 0 0 0) q S = S := by rw [hdS, if_neg (by omega), if_pos m_7]
            exact g_zretE K hQ hc hw hr (by exact congrArg (fun z => some (Value.int z)) (by rw [hb9]; rfl)) (by first | rfl | (split <;> rfl) | exact g_nb _) (by rw [hs9] <;> rfl) dX6_does_329
      have m_7 : ¬ (q / 1000) = 7 := nf_eqF rfl rfl (by omega) (by decide) y_7
      have z_1 := lv_neT (a := 1) y_1 (by decide)
      have z_2 := lv_neT (a := 2) y_2 (by decide)
      have z_3 := lv_neT (a := 3) y_3 (by decide)
      have z_4 := lv_neT (a := 4) y_4 (by decide)
      have z_5 := lv_neT (a := 5) y_5 (by decide)
      have z_6 := lv_neT (a := 6) y_6 (by decide)
      have z_7 := lv_neT (a := 7) y_7 (by decide)
      refine lv_tableOut (tgt := 330) hx hb dX6_does_64 (by omega) (by decide) ?_
      refine lv_iconst (v := 0) hx hb dX6_does_330 (by decide) ?_
      have hb9 : hdB q S = false := by rw [hdB, if_neg (by omega), if_neg (by omega)]; rw [gpB_o m_2 m_3 m_4 m_5 m_6, Bool.and_false]
      have hs9 : hdS nw nf fl (x3F 0 0 0) q S = S := by rw [hdS, if_neg (by omega), if_neg (by omega)]; split <;> first | exact gpS_o (by omega) (by omega) (by omega) | rfl
      exact g_zretE K hQ hc hw hr (by exact congrArg (fun z => some (Value.int z)) (by rw [hb9]; rfl)) (by first | rfl | (split <;> rfl) | exact g_nb _) (by rw [hs9] <;> rfl) dX6_does_331
    · skip
      have k_49 := b2i_ne c_49
      refine lv_iconst (v := 1) hx hb dX6_does_52 (by decide) ?_
      refine lv_goto (tgt := 57) hx hb dX6_does_53 (by decide) ?_
      refine lv_istore (lv' := [(6, .int 1), (5, .int 1), (4, .int (nI (q % 10))), (3, .int (nI (q / 10 % 10))), (2, .int (nI (q / 100 % 10))), (0, .ref o), (1, .int (nI q))]) hx hb dX6_does_57 hl (by decide) rfl (fun ls hl => ?_)
      refine lv_iload_n hx hb dX6_does_59 rfl (lv_at hl 6 rfl) ?_
      refine lv_sipush (v := 1000) hx hb dX6_does_60 (by decide) ?_
      refine lv_idiv hx hb dX6_does_63 (by decide) ?_
      refine W.eq (congrArg (fun z => F0 m 64 ls (.int z :: [])) (show ((nI q) / 1000 : Int32) = nI (q / 1000) from (n_div rfl rfl (by omega) (by omega) (by omega)))) ?_
      by_cases y_1 : (nI (q / 1000)) = 1
      · skip
        refine lv_tableIn (off := 44) (tgt := 108) hx hb dX6_does_64 (by rw [y_1]; decide) (by rw [y_1]; decide) (by rw [y_1]; rfl) (by decide) ?_
        have m_1 : (q / 1000) = 1 := nf_eqT rfl rfl (by omega) (by decide) y_1
        refine lv_bipush (v := 10) hx hb dX6_does_108 (by decide) ?_
        refine lv_iload_n hx hb dX6_does_110 rfl (lv_at hl 4 rfl) ?_
        refine lv_imul hx hb dX6_does_111 ?_
        refine lv_iload_n hx hb dX6_does_112 rfl (lv_at hl 3 rfl) ?_
        refine lv_iadd hx hb dX6_does_113 ?_
        refine lv_if_eq (tgt := 122) hx hb dX6_does_114 (by decide) (fun c_114 => ?_) (fun c_114 => ?_)
        · skip
          have n_114 : ((10 * (q / 100 % 10)) + (q / 10 % 10)) = 0 := nf_eqT (n_add (n_mul rfl rfl) rfl) rfl (by omega) (by omega) c_114
          refine lv_iconst (v := 0) hx hb dX6_does_122 (by decide) ?_
          have hb9 : hdB q S = false := by rw [hdB, if_pos m_1]; exact decide_eq_false (by omega)
          have hs9 : hdS nw nf fl (x3F 0 0 0) q S = S := by rw [hdS, if_pos m_1, show t1P q = 0 from if_neg (by omega)]; rfl
          exact g_zretE K hQ hc hw hr (by exact congrArg (fun z => some (Value.int z)) (by rw [hb9]; rfl)) (by first | rfl | (split <;> rfl) | exact g_nb _) (by rw [hs9] <;> rfl) dX6_does_123
        · skip
          have n_114 : ¬ ((10 * (q / 100 % 10)) + (q / 10 % 10)) = 0 := nf_eqF (n_add (n_mul rfl rfl) rfl) rfl (by omega) (by omega) c_114
          refine lv_iload hx hb dX6_does_117 (lv_at hl 2 rfl) ?_
          refine lv_if_eq (tgt := 124) hx hb dX6_does_119 (by decide) (fun c_119 => ?_) (fun c_119 => ?_)
          · skip
            have n_119 : (q % 10) = 0 := nf_eqT rfl rfl (by omega) (by omega) c_119
            refine lv_aload_n hx hb dX6_does_124 rfl (lv_at hl 5 rfl) ?_
            refine lv_aload_n hx hb dX6_does_125 rfl (lv_at hl 5 rfl) ?_
            refine g_get (TT := TX6) hc hw inX6_does_X6 0 13 1 rfl rfl (by decide) rfl rfl dX6_does_126 ?_
            refine lv_aload_n hx hb dX6_does_129 rfl (lv_at hl 5 rfl) ?_
            refine g_get (TT := TX6) hc hw inX6_does_X6 0 14 2 rfl rfl (by decide) rfl rfl dX6_does_130 ?_
            refine lv_bipush (v := 10) hx hb dX6_does_133 (by decide) ?_
            refine lv_iload_n hx hb dX6_does_135 rfl (lv_at hl 4 rfl) ?_
            refine lv_imul hx hb dX6_does_136 ?_
            refine lv_iload_n hx hb dX6_does_137 rfl (lv_at hl 3 rfl) ?_
            refine lv_iadd hx hb dX6_does_138 ?_
            refine W.eq (congrArg (fun z => F0 m 139 ls (.int z :: [.ref ya, .ref ua, .ref o])) (show ((10 * (nI (q / 100 % 10))) + (nI (q / 10 % 10)) : Int32) = nI (10 * (q / 100 % 10) + q / 10 % 10) from (n_add (n_mul rfl rfl) rfl))) ?_
            refine g_cEV (As := [.ref ua, .ref ya, .int (nI (10 * (q / 100 % 10) + q / 10 % 10))]) (n := 3) (rest := []) (wc := [(o, .inr (6, [u0, u1, u2, .ref xa, .int (nI nw), .int (nI nf), .ref fa, u7, u8, u9, u10, u11, u12, .ref ua, .ref ya, u15, u16, u17, u18, u19, u20, u21, u22, u23, u24, u25, u26, .ref wa, .ref la, .ref ta, .int (rS K), .int (rN K), .float (rH K), .ref ma, u34, .ref sa])), (xa, .inl (E 0, 12, .inl (g_tv 0))), (fa, .inl (E 0, 18, .inl fl)), (wa, .inl (E 0, 3, .inl (rW K))), (la, .inl (E 1, 4, .inr (.inr (.inl (rP K))))), (ta, .inl (E 1, 4, .inr (.inr (.inl (rT K))))), (ma, .inl (E 1, 3, .inr (.inr (.inl (rM K))))), (sa, .inl (E 0, 9, .inl (g_tv 1))), (ua, .inl (E 0, 29, .inl (pgF S))), (ya, .inl (E 1, 5, .inr (.inr (.inl (fl5 S)))))]) (w1 := (fun (K1 : RJ) => [(o, .inr (6, [u0, u1, u2, .ref xa, .int (nI nw), .int (nI nf), .ref fa, u7, u8, u9, u10, u11, u12, .ref ua, .ref ya, u15, u16, u17, u18, u19, u20, u21, u22, u23, u24, u25, u26, .ref wa, .ref la, .ref ta, .int (rS K1), .int (rN K1), .float (rH K1), .ref ma, u34, .ref sa])), (xa, .inl (E 0, 12, .inl (g_tv 0))), (fa, .inl (E 0, 18, .inl fl)), (wa, .inl (E 0, 3, .inl (rW K1))), (la, .inl (E 1, 4, .inr (.inr (.inl (rP K1))))), (ta, .inl (E 1, 4, .inr (.inr (.inl (rT K1))))), (ma, .inl (E 1, 3, .inr (.inr (.inl (rM K1))))), (sa, .inl (E 0, 9, .inl (g_tv 1))), (ua, .inl (E 0, 29, .inl (pgF (tkN nw nf fl (x3F 0 0 0) S (10 * (q / 100 % 10) + q / 10 % 10))))), (ya, .inl (E 1, 5, .inr (.inr (.inl (fl5 (tkN nw nf fl (x3F 0 0 0) S (10 * (q / 100 % 10) + q / 10 % 10)))))))])) (bytes := cX6_tickMany) (maxL := 5) (ret := none) hc hw hl.1 (m_X6_tickMany_x (l := l) (D := D) (E := E) (T := T) o xa fa wa la ta ma sa ua ya nw nf B u0 u1 u2 u7 u8 u9 u10 u11 u12 (.ref ua) (.ref ya) u15 u16 u17 u18 u19 u20 u21 u22 u23 u24 u25 u26 u34 fl S K (10 * (q / 100 % 10) + q / 10 % 10) hok (by omega) (by first | assumption | omega | decide) (by first | assumption | omega | decide)) gX6_does_X6_tickMany rfl (by decide +kernel) (by rw [hR]; exact ⟨Nat.le_of_ble_eq_true rfl, Nat.le_of_ble_eq_true rfl⟩) [0, 1, 2, 3, 4, 5, 6, 7, 8, 9] 0 6 rfl rfl (by decide) rfl [o, xa, fa, wa, la, ta, ma, sa, ua, ya] (fun _ => rfl) rfl rfl rfl (Nat.le_of_ble_eq_true rfl) dX6_does_139 ⟨Nat.zero_le _, Nat.zero_le _⟩ (fun u_3 H locs hw => ?_)
            obtain ⟨K1_u_3, rfl⟩ : ∃ z, z = u_3 := ⟨_, rfl⟩
            have hw : g_W D A s [(o, .inr (6, [u0, u1, u2, .ref xa, .int (nI nw), .int (nI nf), .ref fa, u7, u8, u9, u10, u11, u12, .ref ua, .ref ya, u15, u16, u17, u18, u19, u20, u21, u22, u23, u24, u25, u26, .ref wa, .ref la, .ref ta, .int (rS K1_u_3), .int (rN K1_u_3), .float (rH K1_u_3), .ref ma, u34, .ref sa])), (xa, .inl (E 0, 12, .inl (g_tv 0))), (fa, .inl (E 0, 18, .inl fl)), (wa, .inl (E 0, 3, .inl (rW K1_u_3))), (la, .inl (E 1, 4, .inr (.inr (.inl (rP K1_u_3))))), (ta, .inl (E 1, 4, .inr (.inr (.inl (rT K1_u_3))))), (ma, .inl (E 1, 3, .inr (.inr (.inl (rM K1_u_3))))), (sa, .inl (E 0, 9, .inl (g_tv 1))), (ua, .inl (E 0, 29, .inl (pgF (tkN nw nf fl (x3F 0 0 0) S (10 * (q / 100 % 10) + q / 10 % 10))))), (ya, .inl (E 1, 5, .inr (.inr (.inl (fl5 (tkN nw nf fl (x3F 0 0 0) S (10 * (q / 100 % 10) + q / 10 % 10)))))))] H locs := hw
            refine lv_iconst (v := 1) hx hb dX6_does_142 (by decide) ?_
            have hb9 : hdB q S = true := by rw [hdB, if_pos m_1]; exact decide_eq_true (by omega)
            have hs9 : hdS nw nf fl (x3F 0 0 0) q S = tkN nw nf fl (x3F 0 0 0) S (10 * (q / 100 % 10) + q / 10 % 10) := by rw [hdS, if_pos m_1, show t1P q = _ from if_pos (by omega)]
            exact g_zretE K1_u_3 hQ hc hw hr (by exact congrArg (fun z => some (Value.int z)) (by rw [hb9]; rfl)) (by first | rfl | (split <;> rfl) | exact g_nb _) (by rw [hs9] <;> rfl) dX6_does_143
          · skip
            have n_119 : ¬ (q % 10) = 0 := nf_eqF rfl rfl (by omega) (by omega) c_119
            refine lv_iconst (v := 0) hx hb dX6_does_122 (by decide) ?_
            have hb9 : hdB q S = false := by rw [hdB, if_pos m_1]; exact decide_eq_false (by omega)
            have hs9 : hdS nw nf fl (x3F 0 0 0) q S = S := by rw [hdS, if_pos m_1, show t1P q = 0 from if_neg (by omega)]; rfl
            exact g_zretE K hQ hc hw hr (by exact congrArg (fun z => some (Value.int z)) (by rw [hb9]; rfl)) (by first | rfl | (split <;> rfl) | exact g_nb _) (by rw [hs9] <;> rfl) dX6_does_123
      have m_1 : ¬ (q / 1000) = 1 := nf_eqF rfl rfl (by omega) (by decide) y_1
      by_cases y_2 : (nI (q / 1000)) = 2
      · skip
        refine lv_tableIn (off := 80) (tgt := 144) hx hb dX6_does_64 (by rw [y_2]; decide) (by rw [y_2]; decide) (by rw [y_2]; rfl) (by decide) ?_
        have m_2 : (q / 1000) = 2 := nf_eqT rfl rfl (by omega) (by decide) y_2
        refine lv_iload hx hb dX6_does_144 (lv_at hl 1 rfl) ?_
        refine lv_if_eq (tgt := 163) hx hb dX6_does_146 (by decide) (fun c_146 => absurd c_146 (by decide)) (fun c_146 => ?_)
        refine lv_iload hx hb dX6_does_149 (lv_at hl 0 rfl) ?_
        refine lv_if_ne (tgt := 163) hx hb dX6_does_151 (by decide) (fun c_151 => ?_) (fun c_151 => absurd c_151 (by decide))
        refine lv_iconst (v := 0) hx hb dX6_does_163 (by decide) ?_
        have hg9 : gpB (q / 1000) (q / 100 % 10) (q % 10) S = false := by rw [gpB_2 m_2]; rw [k_49, Bool.not_true, Bool.and_false]
        have hb9 : hdB q S = false := by rw [hdB, if_neg (by omega), if_neg (by omega)]; rw [hg9, Bool.and_false]
        have hs9 : hdS nw nf fl (x3F 0 0 0) q S = S := by rw [hdS, if_neg (by omega), if_neg (by omega)]; split <;> first | exact gpS_f hg9 | rfl
        exact g_zretE K hQ hc hw hr (by exact congrArg (fun z => some (Value.int z)) (by rw [hb9]; rfl)) (by first | rfl | (split <;> rfl) | exact g_nb _) (by rw [hs9] <;> rfl) dX6_does_164
      have m_2 : ¬ (q / 1000) = 2 := nf_eqF rfl rfl (by omega) (by decide) y_2
      by_cases y_3 : (nI (q / 1000)) = 3
      · skip
        refine lv_tableIn (off := 111) (tgt := 175) hx hb dX6_does_64 (by rw [y_3]; decide) (by rw [y_3]; decide) (by rw [y_3]; rfl) (by decide) ?_
        have m_3 : (q / 1000) = 3 := nf_eqT rfl rfl (by omega) (by decide) y_3
        refine lv_iload hx hb dX6_does_175 (lv_at hl 0 rfl) ?_
        refine lv_if_eq (tgt := 189) hx hb dX6_does_177 (by decide) (fun c_177 => absurd c_177 (by decide)) (fun c_177 => ?_)
        refine lv_iload_n hx hb dX6_does_180 rfl (lv_at hl 3 rfl) ?_
        refine lv_if_ne (tgt := 189) hx hb dX6_does_181 (by decide) (fun c_181 => ?_) (fun c_181 => ?_)
        · skip
          have n_181 : ¬ (q / 10 % 10) = 0 := nf_neT rfl rfl (by omega) (by omega) c_181
          refine lv_iconst (v := 0) hx hb dX6_does_189 (by decide) ?_
          have hb9 : hdB q S = false := by rw [hdB, if_neg (by omega), if_neg (by omega)]; rw [decide_eq_false (show ¬ q / 10 % 10 = 0 by omega), Bool.false_and]
          have hs9 : hdS nw nf fl (x3F 0 0 0) q S = S := by rw [hdS, if_neg (by omega), if_neg (by omega)]; exact if_neg (by omega)
          exact g_zretE K hQ hc hw hr (by exact congrArg (fun z => some (Value.int z)) (by rw [hb9]; rfl)) (by first | rfl | (split <;> rfl) | exact g_nb _) (by rw [hs9] <;> rfl) dX6_does_190
        · skip
          have n_181 : (q / 10 % 10) = 0 := nf_neF rfl rfl (by omega) (by omega) c_181
          refine lv_iload hx hb dX6_does_184 (lv_at hl 2 rfl) ?_
          refine lv_if_eq (tgt := 191) hx hb dX6_does_186 (by decide) (fun c_186 => ?_) (fun c_186 => ?_)
          · skip
            have n_186 : (q % 10) = 0 := nf_eqT rfl rfl (by omega) (by omega) c_186
            refine lv_aload_n hx hb dX6_does_191 rfl (lv_at hl 5 rfl) ?_
            refine g_get (TT := TX6) hc hw inX6_does_X6 0 13 1 rfl rfl (by decide) rfl rfl dX6_does_192 ?_
            refine lv_iconst (v := 0) hx hb dX6_does_195 (by decide) ?_
            refine lv_dup2_11 hx hb dX6_does_196 rfl rfl ?_
            refine g_ild hc hw 8 0 rfl rfl (by omega) (by decide) dX6_does_197 ?_
            refine W.eq (congrArg (fun z => F0 m 198 ls (.int z :: [.int 0, .ref ua])) (show ((pgF S) 0 : Int32) = nI (sD S) from rfl)) ?_
            refine lv_iconst (v := 1) hx hb dX6_does_198 (by decide) ?_
            refine lv_iload_n hx hb dX6_does_199 rfl (lv_at hl 4 rfl) ?_
            refine lv_ishl hx hb dX6_does_200 ?_
            refine lv_iconst (v := (-1)) hx hb dX6_does_201 (by decide) ?_
            refine lv_ixor hx hb dX6_does_202 ?_
            refine lv_iand hx hb dX6_does_203 ?_
            refine W.eq (congrArg (fun z => F0 m 204 ls (.int z :: [.int 0, .ref ua])) (show ((nI (sD S)) &&& (((1 : Int32) <<< ((nI (q / 100 % 10)) &&& 31)) ^^^ (-1)) : Int32) = nI (dOut (sD S) (q / 100 % 10)) from (g_out16 _ hok.d _ (by omega)))) ?_
            refine g_ist hc hw 8 0 rfl rfl (by omega) (by decide) dX6_does_204 (fun H locs hw => ?_)
            have hw : g_W D A s [(o, .inr (6, [u0, u1, u2, .ref xa, .int (nI nw), .int (nI nf), .ref fa, u7, u8, u9, u10, u11, u12, .ref ua, .ref ya, u15, u16, u17, u18, u19, u20, u21, u22, u23, u24, u25, u26, .ref wa, .ref la, .ref ta, .int (rS K), .int (rN K), .float (rH K), .ref ma, u34, .ref sa])), (xa, .inl (E 0, 12, .inl (g_tv 0))), (fa, .inl (E 0, 18, .inl fl)), (wa, .inl (E 0, 3, .inl (rW K))), (la, .inl (E 1, 4, .inr (.inr (.inl (rP K))))), (ta, .inl (E 1, 4, .inr (.inr (.inl (rT K))))), (ma, .inl (E 1, 3, .inr (.inr (.inl (rM K))))), (sa, .inl (E 0, 9, .inl (g_tv 1))), (ua, .inl (E 0, 29, .inl (upd (pgF S) 0 (nI (dOut (sD S) (q / 100 % 10)))))), (ya, .inl (E 1, 5, .inr (.inr (.inl (fl5 S)))))] H locs := hw
            rw [pg_D] at hw
            have hw : g_W D A s [(o, .inr (6, [u0, u1, u2, .ref xa, .int (nI nw), .int (nI nf), .ref fa, u7, u8, u9, u10, u11, u12, .ref ua, .ref ya, u15, u16, u17, u18, u19, u20, u21, u22, u23, u24, u25, u26, .ref wa, .ref la, .ref ta, .int (rS K), .int (rN K), .float (rH K), .ref ma, u34, .ref sa])), (xa, .inl (E 0, 12, .inl (g_tv 0))), (fa, .inl (E 0, 18, .inl fl)), (wa, .inl (E 0, 3, .inl (rW K))), (la, .inl (E 1, 4, .inr (.inr (.inl (rP K))))), (ta, .inl (E 1, 4, .inr (.inr (.inl (rT K))))), (ma, .inl (E 1, 3, .inr (.inr (.inl (rM K))))), (sa, .inl (E 0, 9, .inl (g_tv 1))), (ua, .inl (E 0, 29, .inl (pgF (wD S (dOut (sD S) (q / 100 % 10)))))), (ya, .inl (E 1, 5, .inr (.inr (.inl (fl5 S)))))] H locs := hw
            refine lv_iconst (v := 1) hx hb dX6_does_205 (by decide) ?_
            have hg9 : gpB (q / 1000) (q / 100 % 10) (q % 10) S = true := by rw [gpB_3 m_3]; rw [decide_eq_true ⟨n_186, (by omega)⟩, k_49]; rfl
            have hb9 : hdB q S = true := by rw [hdB, if_neg (by omega), if_neg (by omega)]; rw [hg9, decide_eq_true (show q / 10 % 10 = 0 by omega)]; rfl
            have hs9 : hdS nw nf fl (x3F 0 0 0) q S = rvS S (q / 100 % 10) := by rw [hdS, if_neg (by omega), if_neg (by omega)]; rw [if_pos (show q / 10 % 10 = 0 by omega)]; exact gpS_3 hg9 m_3
            exact g_zretE K hQ hc hw hr (by exact congrArg (fun z => some (Value.int z)) (by rw [hb9]; rfl)) (by first | rfl | (split <;> rfl) | exact g_nb _) (by rw [hs9] <;> rfl) dX6_does_206
          · skip
            have n_186 : ¬ (q % 10) = 0 := nf_eqF rfl rfl (by omega) (by omega) c_186
            refine lv_iconst (v := 0) hx hb dX6_does_189 (by decide) ?_
            have hg9 : gpB (q / 1000) (q / 100 % 10) (q % 10) S = false := by rw [gpB_3 m_3]; rw [decide_eq_false (fun z => n_186 z.1), Bool.false_and]
            have hb9 : hdB q S = false := by rw [hdB, if_neg (by omega), if_neg (by omega)]; rw [hg9, Bool.and_false]
            have hs9 : hdS nw nf fl (x3F 0 0 0) q S = S := by rw [hdS, if_neg (by omega), if_neg (by omega)]; split <;> first | exact gpS_f hg9 | rfl
            exact g_zretE K hQ hc hw hr (by exact congrArg (fun z => some (Value.int z)) (by rw [hb9]; rfl)) (by first | rfl | (split <;> rfl) | exact g_nb _) (by rw [hs9] <;> rfl) dX6_does_190
      have m_3 : ¬ (q / 1000) = 3 := nf_eqF rfl rfl (by omega) (by decide) y_3
      by_cases y_4 : (nI (q / 1000)) = 4
      · skip
        refine lv_tableIn (off := 143) (tgt := 207) hx hb dX6_does_64 (by rw [y_4]; decide) (by rw [y_4]; decide) (by rw [y_4]; rfl) (by decide) ?_
        have m_4 : (q / 1000) = 4 := nf_eqT rfl rfl (by omega) (by decide) y_4
        refine lv_iload_n hx hb dX6_does_207 rfl (lv_at hl 4 rfl) ?_
        refine lv_if_ne (tgt := 230) hx hb dX6_does_208 (by decide) (fun c_208 => ?_) (fun c_208 => ?_)
        · skip
          have n_208 : ¬ (q / 100 % 10) = 0 := nf_neT rfl rfl (by omega) (by omega) c_208
          refine lv_iconst (v := 0) hx hb dX6_does_230 (by decide) ?_
          have hg9 : gpB (q / 1000) (q / 100 % 10) (q % 10) S = false := by rw [gpB_4 m_4]; exact decide_eq_false (fun z => n_208 z.1)
          have hb9 : hdB q S = false := by rw [hdB, if_neg (by omega), if_neg (by omega)]; rw [hg9, Bool.and_false]
          have hs9 : hdS nw nf fl (x3F 0 0 0) q S = S := by rw [hdS, if_neg (by omega), if_neg (by omega)]; split <;> first | exact gpS_f hg9 | rfl
          exact g_zretE K hQ hc hw hr (by exact congrArg (fun z => some (Value.int z)) (by rw [hb9]; rfl)) (by first | rfl | (split <;> rfl) | exact g_nb _) (by rw [hs9] <;> rfl) dX6_does_231
        · skip
          have n_208 : (q / 100 % 10) = 0 := nf_neF rfl rfl (by omega) (by omega) c_208
          refine lv_iload_n hx hb dX6_does_211 rfl (lv_at hl 3 rfl) ?_
          refine lv_if_ne (tgt := 230) hx hb dX6_does_212 (by decide) (fun c_212 => ?_) (fun c_212 => ?_)
          · skip
            have n_212 : ¬ (q / 10 % 10) = 0 := nf_neT rfl rfl (by omega) (by omega) c_212
            refine lv_iconst (v := 0) hx hb dX6_does_230 (by decide) ?_
            have hb9 : hdB q S = false := by rw [hdB, if_neg (by omega), if_neg (by omega)]; rw [decide_eq_false (show ¬ q / 10 % 10 = 0 by omega), Bool.false_and]
            have hs9 : hdS nw nf fl (x3F 0 0 0) q S = S := by rw [hdS, if_neg (by omega), if_neg (by omega)]; exact if_neg (by omega)
            exact g_zretE K hQ hc hw hr (by exact congrArg (fun z => some (Value.int z)) (by rw [hb9]; rfl)) (by first | rfl | (split <;> rfl) | exact g_nb _) (by rw [hs9] <;> rfl) dX6_does_231
          · skip
            have n_212 : (q / 10 % 10) = 0 := nf_neF rfl rfl (by omega) (by omega) c_212
            refine lv_aload_n hx hb dX6_does_215 rfl (lv_at hl 5 rfl) ?_
            refine g_get (TT := TX6) hc hw inX6_does_X6 0 13 1 rfl rfl (by decide) rfl rfl dX6_does_216 ?_
            refine lv_iconst (v := 1) hx hb dX6_does_219 (by decide) ?_
            refine g_ild hc hw 8 1 rfl rfl (by omega) (by decide) dX6_does_220 ?_
            refine W.eq (congrArg (fun z => F0 m 221 ls (.int z :: [])) (show ((pgF S) 1 : Int32) = sM S from rfl)) ?_
            refine lv_iload hx hb dX6_does_221 (lv_at hl 2 rfl) ?_
            refine lv_icmp_ne (tgt := 230) hx hb dX6_does_223 (by decide) (fun c_223 => ?_) (fun c_223 => ?_)
            · skip
              refine lv_iconst (v := 0) hx hb dX6_does_230 (by decide) ?_
              have hg9 : gpB (q / 1000) (q / 100 % 10) (q % 10) S = false := by rw [gpB_4 m_4]; exact decide_eq_false (fun z => c_223 z.2)
              have hb9 : hdB q S = false := by rw [hdB, if_neg (by omega), if_neg (by omega)]; rw [hg9, Bool.and_false]
              have hs9 : hdS nw nf fl (x3F 0 0 0) q S = S := by rw [hdS, if_neg (by omega), if_neg (by omega)]; split <;> first | exact gpS_f hg9 | rfl
              exact g_zretE K hQ hc hw hr (by exact congrArg (fun z => some (Value.int z)) (by rw [hb9]; rfl)) (by first | rfl | (split <;> rfl) | exact g_nb _) (by rw [hs9] <;> rfl) dX6_does_231
            · skip
              refine lv_iconst (v := 1) hx hb dX6_does_226 (by decide) ?_
              refine lv_goto (tgt := 231) hx hb dX6_does_227 (by decide) ?_
              have hg9 : gpB (q / 1000) (q / 100 % 10) (q % 10) S = true := by rw [gpB_4 m_4]; exact decide_eq_true ⟨n_208, c_223⟩
              have hb9 : hdB q S = true := by rw [hdB, if_neg (by omega), if_neg (by omega)]; rw [hg9, decide_eq_true (show q / 10 % 10 = 0 by omega)]; rfl
              have hs9 : hdS nw nf fl (x3F 0 0 0) q S = S := by rw [hdS, if_neg (by omega), if_neg (by omega)]; rw [if_pos (show q / 10 % 10 = 0 by omega)]; exact gpS_o (by omega) (by omega) (by omega)
              exact g_zretE K hQ hc hw hr (by exact congrArg (fun z => some (Value.int z)) (by rw [hb9]; rfl)) (by first | rfl | (split <;> rfl) | exact g_nb _) (by rw [hs9] <;> rfl) dX6_does_231
      have m_4 : ¬ (q / 1000) = 4 := nf_eqF rfl rfl (by omega) (by decide) y_4
      by_cases y_5 : (nI (q / 1000)) = 5
      · skip
        refine lv_tableIn (off := 168) (tgt := 232) hx hb dX6_does_64 (by rw [y_5]; decide) (by rw [y_5]; decide) (by rw [y_5]; rfl) (by decide) ?_
        have m_5 : (q / 1000) = 5 := nf_eqT rfl rfl (by omega) (by decide) y_5
        refine lv_iload hx hb dX6_does_232 (lv_at hl 1 rfl) ?_
        refine lv_if_eq (tgt := 281) hx hb dX6_does_234 (by decide) (fun c_234 => absurd c_234 (by decide)) (fun c_234 => ?_)
        refine lv_iload_n hx hb dX6_does_237 rfl (lv_at hl 3 rfl) ?_
        refine lv_if_ne (tgt := 281) hx hb dX6_does_238 (by decide) (fun c_238 => ?_) (fun c_238 => ?_)
        · skip
          have n_238 : ¬ (q / 10 % 10) = 0 := nf_neT rfl rfl (by omega) (by omega) c_238
          refine lv_iconst (v := 0) hx hb dX6_does_281 (by decide) ?_
          have hb9 : hdB q S = false := by rw [hdB, if_neg (by omega), if_neg (by omega)]; rw [decide_eq_false (show ¬ q / 10 % 10 = 0 by omega), Bool.false_and]
          have hs9 : hdS nw nf fl (x3F 0 0 0) q S = S := by rw [hdS, if_neg (by omega), if_neg (by omega)]; exact if_neg (by omega)
          exact g_zretE K hQ hc hw hr (by exact congrArg (fun z => some (Value.int z)) (by rw [hb9]; rfl)) (by first | rfl | (split <;> rfl) | exact g_nb _) (by rw [hs9] <;> rfl) dX6_does_282
        · skip
          have n_238 : (q / 10 % 10) = 0 := nf_neF rfl rfl (by omega) (by omega) c_238
          refine lv_aload_n hx hb dX6_does_241 rfl (lv_at hl 5 rfl) ?_
          refine g_get (TT := TX6) hc hw inX6_does_X6 0 14 2 rfl rfl (by decide) rfl rfl dX6_does_242 ?_
          refine lv_iload_n hx hb dX6_does_245 rfl (lv_at hl 4 rfl) ?_
          refine g_fld hc hw 9 (q / 100 % 10) rfl rfl (by omega) (by decide) dX6_does_246 ?_
          refine W.eq (congrArg (fun z => F0 m 247 ls (.float z :: [])) (show ((fl5 S) (q / 100 % 10) : UInt32) = sF S (q / 100 % 10) from (fl5_lt _ (by omega)))) ?_
          refine lv_fconst0 hx hb dX6_does_247 ?_
          refine lv_fcmp hx hb dX6_does_248 ?_
          refine lv_if_ge (tgt := 256) hx hb dX6_does_249 (by decide) (fun c_249 => ?_) (fun c_249 => ?_)
          · skip
            have k_249 := g_cgl c_249
            refine lv_aload_n hx hb dX6_does_256 rfl (lv_at hl 5 rfl) ?_
            refine g_get (TT := TX6) hc hw inX6_does_X6 0 14 2 rfl rfl (by decide) rfl rfl dX6_does_257 ?_
            refine lv_iload_n hx hb dX6_does_260 rfl (lv_at hl 4 rfl) ?_
            refine g_fld hc hw 9 (q / 100 % 10) rfl rfl (by omega) (by decide) dX6_does_261 ?_
            refine W.eq (congrArg (fun z => F0 m 262 ls (.float z :: [])) (show ((fl5 S) (q / 100 % 10) : UInt32) = sF S (q / 100 % 10) from (fl5_lt _ (by omega)))) ?_
            refine lv_fconst0 hx hb dX6_does_262 ?_
            refine lv_fcmp hx hb dX6_does_263 ?_
            refine lv_if_le (tgt := 271) hx hb dX6_does_264 (by decide) (fun c_264 => ?_) (fun c_264 => ?_)
            · skip
              have k_264 := g_clg c_264
              refine lv_iconst (v := 1) hx hb dX6_does_271 (by decide) ?_
              refine lv_iload hx hb dX6_does_272 (lv_at hl 2 rfl) ?_
              refine lv_icmp_ne (tgt := 281) hx hb dX6_does_274 (by decide) (fun c_274 => ?_) (fun c_274 => ?_)
              · skip
                have n_274 : ¬ 1 = (q % 10) := nf_neT rfl rfl (by omega) (by omega) c_274
                refine lv_iconst (v := 0) hx hb dX6_does_281 (by decide) ?_
                have hg9 : gpB (q / 1000) (q / 100 % 10) (q % 10) S = false := by rw [gpB_5 m_5]; exact decide_eq_false (fun z => n_274 ((sg_z (show q % 10 < 10 by omega) k_249 k_264).mp z.2))
                have hb9 : hdB q S = false := by rw [hdB, if_neg (by omega), if_neg (by omega)]; rw [hg9, Bool.and_false]
                have hs9 : hdS nw nf fl (x3F 0 0 0) q S = S := by rw [hdS, if_neg (by omega), if_neg (by omega)]; split <;> first | exact gpS_f hg9 | rfl
                exact g_zretE K hQ hc hw hr (by exact congrArg (fun z => some (Value.int z)) (by rw [hb9]; rfl)) (by first | rfl | (split <;> rfl) | exact g_nb _) (by rw [hs9] <;> rfl) dX6_does_282
              · skip
                have n_274 : 1 = (q % 10) := nf_neF rfl rfl (by omega) (by omega) c_274
                refine lv_iconst (v := 1) hx hb dX6_does_277 (by decide) ?_
                refine lv_goto (tgt := 282) hx hb dX6_does_278 (by decide) ?_
                have hg9 : gpB (q / 1000) (q / 100 % 10) (q % 10) S = true := by rw [gpB_5 m_5]; exact decide_eq_true ⟨(by omega), (sg_z (show q % 10 < 10 by omega) k_249 k_264).mpr n_274⟩
                have hb9 : hdB q S = true := by rw [hdB, if_neg (by omega), if_neg (by omega)]; rw [hg9, decide_eq_true (show q / 10 % 10 = 0 by omega)]; rfl
                have hs9 : hdS nw nf fl (x3F 0 0 0) q S = S := by rw [hdS, if_neg (by omega), if_neg (by omega)]; rw [if_pos (show q / 10 % 10 = 0 by omega)]; exact gpS_o (by omega) (by omega) (by omega)
                exact g_zretE K hQ hc hw hr (by exact congrArg (fun z => some (Value.int z)) (by rw [hb9]; rfl)) (by first | rfl | (split <;> rfl) | exact g_nb _) (by rw [hs9] <;> rfl) dX6_does_282
            · skip
              have k_264 := g_clt c_264
              refine lv_iconst (v := 2) hx hb dX6_does_267 (by decide) ?_
              refine lv_goto (tgt := 272) hx hb dX6_does_268 (by decide) ?_
              refine lv_iload hx hb dX6_does_272 (lv_at hl 2 rfl) ?_
              refine lv_icmp_ne (tgt := 281) hx hb dX6_does_274 (by decide) (fun c_274 => ?_) (fun c_274 => ?_)
              · skip
                have n_274 : ¬ 2 = (q % 10) := nf_neT rfl rfl (by omega) (by omega) c_274
                refine lv_iconst (v := 0) hx hb dX6_does_281 (by decide) ?_
                have hg9 : gpB (q / 1000) (q / 100 % 10) (q % 10) S = false := by rw [gpB_5 m_5]; exact decide_eq_false (fun z => n_274 ((sg_p (show q % 10 < 10 by omega) k_249 k_264).mp z.2))
                have hb9 : hdB q S = false := by rw [hdB, if_neg (by omega), if_neg (by omega)]; rw [hg9, Bool.and_false]
                have hs9 : hdS nw nf fl (x3F 0 0 0) q S = S := by rw [hdS, if_neg (by omega), if_neg (by omega)]; split <;> first | exact gpS_f hg9 | rfl
                exact g_zretE K hQ hc hw hr (by exact congrArg (fun z => some (Value.int z)) (by rw [hb9]; rfl)) (by first | rfl | (split <;> rfl) | exact g_nb _) (by rw [hs9] <;> rfl) dX6_does_282
              · skip
                have n_274 : 2 = (q % 10) := nf_neF rfl rfl (by omega) (by omega) c_274
                refine lv_iconst (v := 1) hx hb dX6_does_277 (by decide) ?_
                refine lv_goto (tgt := 282) hx hb dX6_does_278 (by decide) ?_
                have hg9 : gpB (q / 1000) (q / 100 % 10) (q % 10) S = true := by rw [gpB_5 m_5]; exact decide_eq_true ⟨(by omega), (sg_p (show q % 10 < 10 by omega) k_249 k_264).mpr n_274⟩
                have hb9 : hdB q S = true := by rw [hdB, if_neg (by omega), if_neg (by omega)]; rw [hg9, decide_eq_true (show q / 10 % 10 = 0 by omega)]; rfl
                have hs9 : hdS nw nf fl (x3F 0 0 0) q S = S := by rw [hdS, if_neg (by omega), if_neg (by omega)]; rw [if_pos (show q / 10 % 10 = 0 by omega)]; exact gpS_o (by omega) (by omega) (by omega)
                exact g_zretE K hQ hc hw hr (by exact congrArg (fun z => some (Value.int z)) (by rw [hb9]; rfl)) (by first | rfl | (split <;> rfl) | exact g_nb _) (by rw [hs9] <;> rfl) dX6_does_282
          · skip
            have k_249 := g_cgt c_249
            refine lv_iconst (v := 0) hx hb dX6_does_252 (by decide) ?_
            refine lv_goto (tgt := 272) hx hb dX6_does_253 (by decide) ?_
            refine lv_iload hx hb dX6_does_272 (lv_at hl 2 rfl) ?_
            refine lv_icmp_ne (tgt := 281) hx hb dX6_does_274 (by decide) (fun c_274 => ?_) (fun c_274 => ?_)
            · skip
              have n_274 : ¬ 0 = (q % 10) := nf_neT rfl rfl (by omega) (by omega) c_274
              refine lv_iconst (v := 0) hx hb dX6_does_281 (by decide) ?_
              have hg9 : gpB (q / 1000) (q / 100 % 10) (q % 10) S = false := by rw [gpB_5 m_5]; exact decide_eq_false (fun z => n_274 ((sg_m (show q % 10 < 10 by omega) k_249).mp z.2))
              have hb9 : hdB q S = false := by rw [hdB, if_neg (by omega), if_neg (by omega)]; rw [hg9, Bool.and_false]
              have hs9 : hdS nw nf fl (x3F 0 0 0) q S = S := by rw [hdS, if_neg (by omega), if_neg (by omega)]; split <;> first | exact gpS_f hg9 | rfl
              exact g_zretE K hQ hc hw hr (by exact congrArg (fun z => some (Value.int z)) (by rw [hb9]; rfl)) (by first | rfl | (split <;> rfl) | exact g_nb _) (by rw [hs9] <;> rfl) dX6_does_282
            · skip
              have n_274 : 0 = (q % 10) := nf_neF rfl rfl (by omega) (by omega) c_274
              refine lv_iconst (v := 1) hx hb dX6_does_277 (by decide) ?_
              refine lv_goto (tgt := 282) hx hb dX6_does_278 (by decide) ?_
              have hg9 : gpB (q / 1000) (q / 100 % 10) (q % 10) S = true := by rw [gpB_5 m_5]; exact decide_eq_true ⟨(by omega), (sg_m (show q % 10 < 10 by omega) k_249).mpr n_274⟩
              have hb9 : hdB q S = true := by rw [hdB, if_neg (by omega), if_neg (by omega)]; rw [hg9, decide_eq_true (show q / 10 % 10 = 0 by omega)]; rfl
              have hs9 : hdS nw nf fl (x3F 0 0 0) q S = S := by rw [hdS, if_neg (by omega), if_neg (by omega)]; rw [if_pos (show q / 10 % 10 = 0 by omega)]; exact gpS_o (by omega) (by omega) (by omega)
              exact g_zretE K hQ hc hw hr (by exact congrArg (fun z => some (Value.int z)) (by rw [hb9]; rfl)) (by first | rfl | (split <;> rfl) | exact g_nb _) (by rw [hs9] <;> rfl) dX6_does_282
      have m_5 : ¬ (q / 1000) = 5 := nf_eqF rfl rfl (by omega) (by decide) y_5
      by_cases y_6 : (nI (q / 1000)) = 6
      · skip
        refine lv_tableIn (off := 219) (tgt := 283) hx hb dX6_does_64 (by rw [y_6]; decide) (by rw [y_6]; decide) (by rw [y_6]; rfl) (by decide) ?_
        have m_6 : (q / 1000) = 6 := nf_eqT rfl rfl (by omega) (by decide) y_6
        refine lv_iload_n hx hb dX6_does_283 rfl (lv_at hl 4 rfl) ?_
        refine lv_if_ne (tgt := 291) hx hb dX6_does_284 (by decide) (fun c_284 => ?_) (fun c_284 => ?_)
        · skip
          have n_284 : ¬ (q / 100 % 10) = 0 := nf_neT rfl rfl (by omega) (by omega) c_284
          refine lv_iconst (v := 0) hx hb dX6_does_291 (by decide) ?_
          have hg9 : gpB (q / 1000) (q / 100 % 10) (q % 10) S = false := by rw [gpB_6 m_6]; exact decide_eq_false n_284
          have hb9 : hdB q S = false := by rw [hdB, if_neg (by omega), if_neg (by omega)]; rw [hg9, Bool.and_false]
          have hs9 : hdS nw nf fl (x3F 0 0 0) q S = S := by rw [hdS, if_neg (by omega), if_neg (by omega)]; split <;> first | exact gpS_f hg9 | rfl
          exact g_zretE K hQ hc hw hr (by exact congrArg (fun z => some (Value.int z)) (by rw [hb9]; rfl)) (by first | rfl | (split <;> rfl) | exact g_nb _) (by rw [hs9] <;> rfl) dX6_does_292
        · skip
          have n_284 : (q / 100 % 10) = 0 := nf_neF rfl rfl (by omega) (by omega) c_284
          refine lv_iload_n hx hb dX6_does_287 rfl (lv_at hl 3 rfl) ?_
          refine lv_if_eq (tgt := 293) hx hb dX6_does_288 (by decide) (fun c_288 => ?_) (fun c_288 => ?_)
          · skip
            have n_288 : (q / 10 % 10) = 0 := nf_eqT rfl rfl (by omega) (by omega) c_288
            refine lv_aload_n hx hb dX6_does_293 rfl (lv_at hl 5 rfl) ?_
            refine g_get (TT := TX6) hc hw inX6_does_X6 0 13 1 rfl rfl (by decide) rfl rfl dX6_does_294 ?_
            refine lv_bipush (v := 9) hx hb dX6_does_297 (by decide) ?_
            refine lv_iload hx hb dX6_does_299 (lv_at hl 2 rfl) ?_
            refine g_ist hc hw 8 9 rfl rfl (by omega) (by decide) dX6_does_301 (fun H locs hw => ?_)
            have hw : g_W D A s [(o, .inr (6, [u0, u1, u2, .ref xa, .int (nI nw), .int (nI nf), .ref fa, u7, u8, u9, u10, u11, u12, .ref ua, .ref ya, u15, u16, u17, u18, u19, u20, u21, u22, u23, u24, u25, u26, .ref wa, .ref la, .ref ta, .int (rS K), .int (rN K), .float (rH K), .ref ma, u34, .ref sa])), (xa, .inl (E 0, 12, .inl (g_tv 0))), (fa, .inl (E 0, 18, .inl fl)), (wa, .inl (E 0, 3, .inl (rW K))), (la, .inl (E 1, 4, .inr (.inr (.inl (rP K))))), (ta, .inl (E 1, 4, .inr (.inr (.inl (rT K))))), (ma, .inl (E 1, 3, .inr (.inr (.inl (rM K))))), (sa, .inl (E 0, 9, .inl (g_tv 1))), (ua, .inl (E 0, 29, .inl (upd (pgF S) 9 (nI (q % 10))))), (ya, .inl (E 1, 5, .inr (.inr (.inl (fl5 S)))))] H locs := hw
            rw [pg_T9] at hw
            have hw : g_W D A s [(o, .inr (6, [u0, u1, u2, .ref xa, .int (nI nw), .int (nI nf), .ref fa, u7, u8, u9, u10, u11, u12, .ref ua, .ref ya, u15, u16, u17, u18, u19, u20, u21, u22, u23, u24, u25, u26, .ref wa, .ref la, .ref ta, .int (rS K), .int (rN K), .float (rH K), .ref ma, u34, .ref sa])), (xa, .inl (E 0, 12, .inl (g_tv 0))), (fa, .inl (E 0, 18, .inl fl)), (wa, .inl (E 0, 3, .inl (rW K))), (la, .inl (E 1, 4, .inr (.inr (.inl (rP K))))), (ta, .inl (E 1, 4, .inr (.inr (.inl (rT K))))), (ma, .inl (E 1, 3, .inr (.inr (.inl (rM K))))), (sa, .inl (E 0, 9, .inl (g_tv 1))), (ua, .inl (E 0, 29, .inl (pgF (stS S 2 (nI (q % 10)))))), (ya, .inl (E 1, 5, .inr (.inr (.inl (fl5 S)))))] H locs := hw
            refine lv_iconst (v := 1) hx hb dX6_does_302 (by decide) ?_
            have hg9 : gpB (q / 1000) (q / 100 % 10) (q % 10) S = true := by rw [gpB_6 m_6]; exact decide_eq_true n_284
            have hb9 : hdB q S = true := by rw [hdB, if_neg (by omega), if_neg (by omega)]; rw [hg9, decide_eq_true (show q / 10 % 10 = 0 by omega)]; rfl
            have hs9 : hdS nw nf fl (x3F 0 0 0) q S = stS S 2 (nI (q % 10)) := by rw [hdS, if_neg (by omega), if_neg (by omega)]; rw [if_pos (show q / 10 % 10 = 0 by omega)]; exact gpS_6 hg9 m_6
            exact g_zretE K hQ hc hw hr (by exact congrArg (fun z => some (Value.int z)) (by rw [hb9]; rfl)) (by first | rfl | (split <;> rfl) | exact g_nb _) (by rw [hs9] <;> rfl) dX6_does_303
          · skip
            have n_288 : ¬ (q / 10 % 10) = 0 := nf_eqF rfl rfl (by omega) (by omega) c_288
            refine lv_iconst (v := 0) hx hb dX6_does_291 (by decide) ?_
            have hb9 : hdB q S = false := by rw [hdB, if_neg (by omega), if_neg (by omega)]; rw [decide_eq_false (show ¬ q / 10 % 10 = 0 by omega), Bool.false_and]
            have hs9 : hdS nw nf fl (x3F 0 0 0) q S = S := by rw [hdS, if_neg (by omega), if_neg (by omega)]; exact if_neg (by omega)
            exact g_zretE K hQ hc hw hr (by exact congrArg (fun z => some (Value.int z)) (by rw [hb9]; rfl)) (by first | rfl | (split <;> rfl) | exact g_nb _) (by rw [hs9] <;> rfl) dX6_does_292
      have m_6 : ¬ (q / 1000) = 6 := nf_eqF rfl rfl (by omega) (by decide) y_6
      by_cases y_7 : (nI (q / 1000)) = 7
      · skip
        refine lv_tableIn (off := 240) (tgt := 304) hx hb dX6_does_64 (by rw [y_7]; decide) (by rw [y_7]; decide) (by rw [y_7]; rfl) (by decide) ?_
        have m_7 : (q / 1000) = 7 := nf_eqT rfl rfl (by omega) (by decide) y_7
        refine lv_iload hx hb dX6_does_304 (lv_at hl 2 rfl) ?_
        refine lv_if_ne (tgt := 328) hx hb dX6_does_306 (by decide) (fun c_306 => ?_) (fun c_306 => ?_)
        · skip
          have n_306 : ¬ (q % 10) = 0 := nf_neT rfl rfl (by omega) (by omega) c_306
          refine lv_iconst (v := 0) hx hb dX6_does_328 (by decide) ?_
          have hb9 : hdB q S = false := by rw [hdB, if_neg (by omega), if_pos m_7]; exact decide_eq_false (fun z => n_306 z.1)
          have hs9 : hdS nw nf fl (x3F 0 0 0) q S = S := by rw [hdS, if_neg (by omega), if_pos m_7]
          exact g_zretE K hQ hc hw hr (by exact congrArg (fun z => some (Value.int z)) (by rw [hb9]; rfl)) (by first | rfl | (split <;> rfl) | exact g_nb _) (by rw [hs9] <;> rfl) dX6_does_329
        · skip
          have n_306 : (q % 10) = 0 := nf_neF rfl rfl (by omega) (by omega) c_306
          refine lv_aload_n hx hb dX6_does_309 rfl (lv_at hl 5 rfl) ?_
          refine g_get (TT := TX6) hc hw inX6_does_X6 0 13 1 rfl rfl (by decide) rfl rfl dX6_does_310 ?_
          refine lv_iconst (v := 2) hx hb dX6_does_313 (by decide) ?_
          refine g_ild hc hw 8 2 rfl rfl (by omega) (by decide) dX6_does_314 ?_
          refine W.eq (congrArg (fun z => F0 m 315 ls (.int z :: [])) (show ((pgF S) 2 : Int32) = sI S from rfl)) ?_
          refine lv_bipush (v := 10) hx hb dX6_does_315 (by decide) ?_
          refine lv_iload_n hx hb dX6_does_317 rfl (lv_at hl 4 rfl) ?_
          refine lv_imul hx hb dX6_does_318 ?_
          refine lv_iload_n hx hb dX6_does_319 rfl (lv_at hl 3 rfl) ?_
          refine lv_iadd hx hb dX6_does_320 ?_
          refine W.eq (congrArg (fun z => F0 m 321 ls (.int z :: [.int (sI S)])) (show ((10 * (nI (q / 100 % 10))) + (nI (q / 10 % 10)) : Int32) = nI (10 * (q / 100 % 10) + q / 10 % 10) from (n_add (n_mul rfl rfl) rfl))) ?_
          refine lv_icmp_ne (tgt := 328) hx hb dX6_does_321 (by decide) (fun c_321 => ?_) (fun c_321 => ?_)
          · skip
            refine lv_iconst (v := 0) hx hb dX6_does_328 (by decide) ?_
            have hb9 : hdB q S = false := by rw [hdB, if_neg (by omega), if_pos m_7]; exact decide_eq_false (fun z => c_321 z.2)
            have hs9 : hdS nw nf fl (x3F 0 0 0) q S = S := by rw [hdS, if_neg (by omega), if_pos m_7]
            exact g_zretE K hQ hc hw hr (by exact congrArg (fun z => some (Value.int z)) (by rw [hb9]; rfl)) (by first | rfl | (split <;> rfl) | exact g_nb _) (by rw [hs9] <;> rfl) dX6_does_329
          · skip
            refine lv_iconst (v := 1) hx hb dX6_does_324 (by decide) ?_
            refine lv_goto (tgt := 329) hx hb dX6_does_325 (by decide) ?_
            have hb9 : hdB q S = true := by rw [hdB, if_neg (by omega), if_pos m_7]; exact decide_eq_true ⟨n_306, c_321⟩
            have hs9 : hdS nw nf fl (x3F 0 0 0) q S = S := by rw [hdS, if_neg (by omega), if_pos m_7]
            exact g_zretE K hQ hc hw hr (by exact congrArg (fun z => some (Value.int z)) (by rw [hb9]; rfl)) (by first | rfl | (split <;> rfl) | exact g_nb _) (by rw [hs9] <;> rfl) dX6_does_329
      have m_7 : ¬ (q / 1000) = 7 := nf_eqF rfl rfl (by omega) (by decide) y_7
      have z_1 := lv_neT (a := 1) y_1 (by decide)
      have z_2 := lv_neT (a := 2) y_2 (by decide)
      have z_3 := lv_neT (a := 3) y_3 (by decide)
      have z_4 := lv_neT (a := 4) y_4 (by decide)
      have z_5 := lv_neT (a := 5) y_5 (by decide)
      have z_6 := lv_neT (a := 6) y_6 (by decide)
      have z_7 := lv_neT (a := 7) y_7 (by decide)
      refine lv_tableOut (tgt := 330) hx hb dX6_does_64 (by omega) (by decide) ?_
      refine lv_iconst (v := 0) hx hb dX6_does_330 (by decide) ?_
      have hb9 : hdB q S = false := by rw [hdB, if_neg (by omega), if_neg (by omega)]; rw [gpB_o m_2 m_3 m_4 m_5 m_6, Bool.and_false]
      have hs9 : hdS nw nf fl (x3F 0 0 0) q S = S := by rw [hdS, if_neg (by omega), if_neg (by omega)]; split <;> first | exact gpS_o (by omega) (by omega) (by omega) | rfl
      exact g_zretE K hQ hc hw hr (by exact congrArg (fun z => some (Value.int z)) (by rw [hb9]; rfl)) (by first | rfl | (split <;> rfl) | exact g_nb _) (by rw [hs9] <;> rfl) dX6_does_331

theorem dX6_judge_0 : decode cX6_judge 0 = .ok (.aload_n 0, 1) := by decide +kernel
theorem dX6_judge_1 : decode cX6_judge 1 = .ok (.iconst 0, 1) := by decide +kernel
theorem dX6_judge_2 : decode cX6_judge 2 = .ok (.putfield 88, 3) := by decide +kernel
theorem dX6_judge_5 : decode cX6_judge 5 = .ok (.iload_n 1, 1) := by decide +kernel
theorem dX6_judge_6 : decode cX6_judge 6 = .ok (.i2l, 1) := by decide +kernel
theorem dX6_judge_7 : decode cX6_judge 7 = .ok (.lconst 1, 1) := by decide +kernel
theorem dX6_judge_8 : decode cX6_judge 8 = .ok (.ldc2_w 92, 3) := by decide +kernel
theorem dX6_judge_11 : decode cX6_judge 11 = .ok (.invokestatic 94, 3) := by decide +kernel
theorem dX6_judge_14 : decode cX6_judge 14 = .ok (.ifCond .eq 20, 3) := by decide +kernel
theorem dX6_judge_34 : decode cX6_judge 34 = .ok (.bipush (-2), 2) := by decide +kernel
theorem dX6_judge_36 : decode cX6_judge 36 = .ok (.ireturn, 1) := by decide +kernel
set_option maxRecDepth 20000 in
theorem ggX6_judge_X6_in : GoodIn wsX6_judge wsX6_in := goodIn_r _ [7] rfl (by decide +kernel)
set_option maxRecDepth 20000 in
theorem gX6_judge_X6_in : GoodIn wsX6_judge (va_wsS RX6 94 yX6_in wsX6_in) := goodIn_app (goodIn_of _ (by decide +kernel)) ggX6_judge_X6_in
theorem inX6_judge_X6 : ∀ w ∈ u_ws RX6 TX6 36, w ∈ wsX6_judge := fun w h => List.mem_cons_of_mem _ (List.mem_append_right _ h)
set_option maxRecDepth 100000 in
set_option maxHeartbeats 4000000 in
theorem m_X6_judge_out {l : Launch} {D : va_G} {E : Nat → ClassId} {T : Nat → Nat} (o : Nat) (u0 : Value) (u1 : Value) (u2 : Value) (u3 : Value) (u4 : Value) (u5 : Value) (u6 : Value) (u7 : Value) (u8 : Value) (u9 : Value) (u10 : Value) (u11 : Value) (u12 : Value) (u13 : Value) (u14 : Value) (u15 : Value) (u16 : Value) (u17 : Value) (u18 : Value) (u19 : Value) (u20 : Value) (u21 : Value) (u22 : Value) (u23 : Value) (u24 : Value) (u25 : Value) (u26 : Value) (u27 : Value) (u28 : Value) (u29 : Value) (u30 : Value) (u31 : Value) (u32 : Value) (u33 : Value) (u34 : Value) (u35 : Value) (v : Int32) (w : Int64) (ho : outB v 1 3 = true) : g_M l D E T yX6_judge wsX6_judge 1 25 [.ref o, .int v, .long w] [(o, .inr (6, [u0, u1, u2, u3, u4, u5, u6, u7, u8, u9, u10, u11, u12, u13, u14, u15, u16, u17, u18, u19, u20, u21, u22, u23, u24, u25, u26, u27, u28, u29, u30, u31, u32, u33, u34, u35]))] [(o, .inr (6, [.int 0, u1, u2, u3, u4, u5, u6, u7, u8, u9, u10, u11, u12, u13, u14, u15, u16, u17, u18, u19, u20, u21, u22, u23, u24, u25, u26, u27, u28, u29, u30, u31, u32, u33, u34, u35]))] (some (.int (-2))) := by
  refine g_M.of (cc := cX6_judge) (nL := 5) (ret := (some .int)) (own := RX6) (lv := [(0, .ref o), (1, .int v), (2, .long w)]) (by decide) rfl rfl (Nat.le_of_ble_eq_true rfl) rfl ?_
  intro p e R s m args below meth c A Q H locs ls hR hQ hc hr hw hl
  have hx := hc.1
  have hb := hc.2.1
  have hts := hc.2.2.2.1
  have hown := hc.2.2.2.2.1
  refine lv_aload_n hx hb dX6_judge_0 rfl (lv_at hl 0 rfl) ?_
  refine lv_iconst (v := 0) hx hb dX6_judge_1 (by decide) ?_
  refine g_put (TT := TX6) hc hw inX6_judge_X6 tyX6 tyX6_ok nmX6 0 0 1 rfl rfl (by decide) rfl rfl rfl rfl (Nat.le_of_ble_eq_true rfl) dX6_judge_2 (fun H locs hw => ?_)
  have hw : g_W D A s [(o, .inr (6, [.int 0, u1, u2, u3, u4, u5, u6, u7, u8, u9, u10, u11, u12, u13, u14, u15, u16, u17, u18, u19, u20, u21, u22, u23, u24, u25, u26, u27, u28, u29, u30, u31, u32, u33, u34, u35]))] H locs := hw
  refine lv_iload_n hx hb dX6_judge_5 rfl (lv_at hl 1 rfl) ?_
  refine lv_i2l hx hb dX6_judge_6 rfl ?_
  refine lv_lconst (v := 1) hx hb dX6_judge_7 (by decide) ?_
  refine lv_ldc2 (v := 3) hx hb hown (hts _ (List.mem_of_getElem? (i := 2) rfl)) dX6_judge_8 ?_
  refine g_cS (As := [.long v.toInt64, .long 1, .long 3]) (n := 3) (rest := []) (wc := []) (w1 := []) (bytes := cX6_in) (maxL := 6) (ret := (some .boolean)) hc hw hl.1 (m_X6_in (l := l) (D := D) (E := E) (T := T) v.toInt64 1 3) gX6_judge_X6_in rfl (by decide +kernel) (by rw [hR]; exact ⟨Nat.le_of_ble_eq_true rfl, Nat.le_of_ble_eq_true rfl⟩) [] (by decide) rfl [] rfl rfl rfl rfl (Nat.le_of_ble_eq_true rfl) dX6_judge_11 ⟨Nat.zero_le _, Nat.zero_le _⟩ (fun H locs hw => ?_)
  have hw : g_W D A s [(o, .inr (6, [.int 0, u1, u2, u3, u4, u5, u6, u7, u8, u9, u10, u11, u12, u13, u14, u15, u16, u17, u18, u19, u20, u21, u22, u23, u24, u25, u26, u27, u28, u29, u30, u31, u32, u33, u34, u35]))] H locs := hw
  refine W.eq (congrArg (fun z => F0 m 14 ls (.int z :: [])) (show (b2i (inL v.toInt64 1 3) : Int32) = 0 from (congrArg b2i (in_o (a := 1) (b := 3) ho (by decide) (by decide))))) ?_
  refine lv_if_eq (tgt := 34) hx hb dX6_judge_14 (by decide) (fun c_14 => ?_) (fun c_14 => absurd c_14 (by decide))
  refine lv_bipush (v := (-2)) hx hb dX6_judge_34 (by decide) ?_
  exact g_iret hQ hc hw hr rfl rfl dX6_judge_36

theorem dX6_judge_17 : decode cX6_judge 17 = .ok (.lload_n 2, 1) := by decide +kernel
theorem dX6_judge_18 : decode cX6_judge 18 = .ok (.lconst 0, 1) := by decide +kernel
theorem dX6_judge_19 : decode cX6_judge 19 = .ok (.ldc2_w 260, 3) := by decide +kernel
theorem dX6_judge_22 : decode cX6_judge 22 = .ok (.iload_n 1, 1) := by decide +kernel
theorem dX6_judge_23 : decode cX6_judge 23 = .ok (.invokestatic 262, 3) := by decide +kernel
theorem dX6_judge_26 : decode cX6_judge 26 = .ok (.lconst 1, 1) := by decide +kernel
theorem dX6_judge_27 : decode cX6_judge 27 = .ok (.lsub, 1) := by decide +kernel
theorem dX6_judge_28 : decode cX6_judge 28 = .ok (.invokestatic 94, 3) := by decide +kernel
theorem dX6_judge_31 : decode cX6_judge 31 = .ok (.ifCond .ne 6, 3) := by decide +kernel
set_option maxRecDepth 20000 in
theorem ggX6_judge_X6_longPower : GoodIn wsX6_judge wsX6_longPower := goodIn_r _ [10] rfl (by decide +kernel)
set_option maxRecDepth 20000 in
theorem gX6_judge_X6_longPower : GoodIn wsX6_judge (va_wsS RX6 262 yX6_longPower wsX6_longPower) := goodIn_app (goodIn_of _ (by decide +kernel)) ggX6_judge_X6_longPower
set_option maxRecDepth 100000 in
set_option maxHeartbeats 4000000 in
theorem m_X6_judge_row {l : Launch} {D : va_G} {E : Nat → ClassId} {T : Nat → Nat} (o : Nat) (n : Nat) (u0 : Value) (u1 : Value) (u2 : Value) (u3 : Value) (u4 : Value) (u5 : Value) (u6 : Value) (u7 : Value) (u8 : Value) (u9 : Value) (u10 : Value) (u11 : Value) (u12 : Value) (u13 : Value) (u14 : Value) (u15 : Value) (u16 : Value) (u17 : Value) (u18 : Value) (u19 : Value) (u20 : Value) (u21 : Value) (u22 : Value) (u23 : Value) (u24 : Value) (u25 : Value) (u26 : Value) (u27 : Value) (u28 : Value) (u29 : Value) (u30 : Value) (u31 : Value) (u32 : Value) (u33 : Value) (u34 : Value) (u35 : Value) (w : Int64) (hn1 : 1 ≤ n) (hn : n ≤ 3) (ho : lg_cmp w 0 < 0 ∨ ¬ lg_cmp w (rwF n) < 0) : g_M l D E T yX6_judge wsX6_judge 1 25 [.ref o, .int (nI n), .long w] [(o, .inr (6, [u0, u1, u2, u3, u4, u5, u6, u7, u8, u9, u10, u11, u12, u13, u14, u15, u16, u17, u18, u19, u20, u21, u22, u23, u24, u25, u26, u27, u28, u29, u30, u31, u32, u33, u34, u35]))] [(o, .inr (6, [.int 0, u1, u2, u3, u4, u5, u6, u7, u8, u9, u10, u11, u12, u13, u14, u15, u16, u17, u18, u19, u20, u21, u22, u23, u24, u25, u26, u27, u28, u29, u30, u31, u32, u33, u34, u35]))] (some (.int (-2))) := by
  refine g_M.of (cc := cX6_judge) (nL := 5) (ret := (some .int)) (own := RX6) (lv := [(0, .ref o), (1, .int (nI n)), (2, .long w)]) (by decide) rfl rfl (Nat.le_of_ble_eq_true rfl) rfl ?_
  intro p e R s m args below meth c A Q H locs ls hR hQ hc hr hw hl
  have hx := hc.1
  have hb := hc.2.1
  have hts := hc.2.2.2.1
  have hown := hc.2.2.2.2.1
  refine lv_aload_n hx hb dX6_judge_0 rfl (lv_at hl 0 rfl) ?_
  refine lv_iconst (v := 0) hx hb dX6_judge_1 (by decide) ?_
  refine g_put (TT := TX6) hc hw inX6_judge_X6 tyX6 tyX6_ok nmX6 0 0 1 rfl rfl (by decide) rfl rfl rfl rfl (Nat.le_of_ble_eq_true rfl) dX6_judge_2 (fun H locs hw => ?_)
  have hw : g_W D A s [(o, .inr (6, [.int 0, u1, u2, u3, u4, u5, u6, u7, u8, u9, u10, u11, u12, u13, u14, u15, u16, u17, u18, u19, u20, u21, u22, u23, u24, u25, u26, u27, u28, u29, u30, u31, u32, u33, u34, u35]))] H locs := hw
  refine lv_iload_n hx hb dX6_judge_5 rfl (lv_at hl 1 rfl) ?_
  refine lv_i2l hx hb dX6_judge_6 rfl ?_
  refine lv_lconst (v := 1) hx hb dX6_judge_7 (by decide) ?_
  refine lv_ldc2 (v := 3) hx hb hown (hts _ (List.mem_of_getElem? (i := 2) rfl)) dX6_judge_8 ?_
  refine g_cS (As := [.long ((nI n).toInt64), .long 1, .long 3]) (n := 3) (rest := []) (wc := []) (w1 := []) (bytes := cX6_in) (maxL := 6) (ret := (some .boolean)) hc hw hl.1 (m_X6_in (l := l) (D := D) (E := E) (T := T) ((nI n).toInt64) 1 3) gX6_judge_X6_in rfl (by decide +kernel) (by rw [hR]; exact ⟨Nat.le_of_ble_eq_true rfl, Nat.le_of_ble_eq_true rfl⟩) [] (by decide) rfl [] rfl rfl rfl rfl (Nat.le_of_ble_eq_true rfl) dX6_judge_11 ⟨Nat.zero_le _, Nat.zero_le _⟩ (fun H locs hw => ?_)
  have hw : g_W D A s [(o, .inr (6, [.int 0, u1, u2, u3, u4, u5, u6, u7, u8, u9, u10, u11, u12, u13, u14, u15, u16, u17, u18, u19, u20, u21, u22, u23, u24, u25, u26, u27, u28, u29, u30, u31, u32, u33, u34, u35]))] H locs := hw
  refine W.eq (congrArg (fun z => F0 m 14 ls (.int z :: [])) (show (b2i (inL ((nI n).toInt64) 1 3) : Int32) = 1 from (congrArg b2i (in_i (out_nf (n := n) (a := 1) (b := 3) (by omega) hn (by decide)) (by decide) (by decide))))) ?_
  refine lv_if_eq (tgt := 34) hx hb dX6_judge_14 (by decide) (fun c_14 => absurd c_14 (by decide)) (fun c_14 => ?_)
  refine lv_lload_n hx hb dX6_judge_17 rfl (lv_at hl 2 rfl) ?_
  refine lv_lconst (v := 0) hx hb dX6_judge_18 (by decide) ?_
  refine lv_ldc2 (v := 10000) hx hb hown (hts _ (List.mem_of_getElem? (i := 3) rfl)) dX6_judge_19 ?_
  refine lv_iload_n hx hb dX6_judge_22 rfl (lv_at hl 1 rfl) ?_
  refine g_cS (As := [.long 10000, .int (nI n)]) (n := 2) (rest := [.long 0, .long w]) (wc := []) (w1 := []) (bytes := cX6_longPower) (maxL := 6) (ret := (some .long)) hc hw hl.1 (m_X6_longPower (l := l) (D := D) (E := E) (T := T) n (by omega)) gX6_judge_X6_longPower rfl (by decide +kernel) (by rw [hR]; exact ⟨Nat.le_of_ble_eq_true rfl, Nat.le_of_ble_eq_true rfl⟩) [] (by decide) rfl [] rfl rfl rfl rfl (Nat.le_of_ble_eq_true rfl) dX6_judge_23 ⟨Nat.zero_le _, Nat.zero_le _⟩ (fun H locs hw => ?_)
  have hw : g_W D A s [(o, .inr (6, [.int 0, u1, u2, u3, u4, u5, u6, u7, u8, u9, u10, u11, u12, u13, u14, u15, u16, u17, u18, u19, u20, u21, u22, u23, u24, u25, u26, u27, u28, u29, u30, u31, u32, u33, u34, u35]))] H locs := hw
  refine lv_lconst (v := 1) hx hb dX6_judge_26 (by decide) ?_
  refine lv_lsub hx hb dX6_judge_27 ?_
  refine g_cS (As := [.long w, .long 0, .long ((rwF n) - 1)]) (n := 3) (rest := []) (wc := []) (w1 := []) (bytes := cX6_in) (maxL := 6) (ret := (some .boolean)) hc hw hl.1 (m_X6_in (l := l) (D := D) (E := E) (T := T) w 0 ((rwF n) - 1)) gX6_judge_X6_in rfl (by decide +kernel) (by rw [hR]; exact ⟨Nat.le_of_ble_eq_true rfl, Nat.le_of_ble_eq_true rfl⟩) [] (by decide) rfl [] rfl rfl rfl rfl (Nat.le_of_ble_eq_true rfl) dX6_judge_28 ⟨Nat.zero_le _, Nat.zero_le _⟩ (fun H locs hw => ?_)
  have hw : g_W D A s [(o, .inr (6, [.int 0, u1, u2, u3, u4, u5, u6, u7, u8, u9, u10, u11, u12, u13, u14, u15, u16, u17, u18, u19, u20, u21, u22, u23, u24, u25, u26, u27, u28, u29, u30, u31, u32, u33, u34, u35]))] H locs := hw
  refine W.eq (congrArg (fun z => F0 m 31 ls (.int z :: [])) (show (b2i (inL w 0 ((rwF n) - 1)) : Int32) = 0 from (congrArg b2i (rw_out hn1 hn ho)))) ?_
  refine lv_if_ne (tgt := 37) hx hb dX6_judge_31 (by decide) (fun c_31 => absurd c_31 (by decide)) (fun c_31 => ?_)
  refine lv_bipush (v := (-2)) hx hb dX6_judge_34 (by decide) ?_
  exact g_iret hQ hc hw hr rfl rfl dX6_judge_36

theorem dX6_judge_37 : decode cX6_judge 37 = .ok (.aload_n 0, 1) := by decide +kernel
theorem dX6_judge_38 : decode cX6_judge 38 = .ok (.invokevirtual 248, 3) := by decide +kernel
theorem dX6_judge_41 : decode cX6_judge 41 = .ok (.iconst 0, 1) := by decide +kernel
theorem dX6_judge_42 : decode cX6_judge 42 = .ok (.istore 4, 2) := by decide +kernel
theorem dX6_judge_44 : decode cX6_judge 44 = .ok (.iload 4, 2) := by decide +kernel
theorem dX6_judge_46 : decode cX6_judge 46 = .ok (.iload_n 1, 1) := by decide +kernel
theorem dX6_judge_47 : decode cX6_judge 47 = .ok (.if_icmp .ge 38, 3) := by decide +kernel
theorem dX6_judge_50 : decode cX6_judge 50 = .ok (.aload_n 0, 1) := by decide +kernel
theorem dX6_judge_51 : decode cX6_judge 51 = .ok (.lload_n 2, 1) := by decide +kernel
theorem dX6_judge_52 : decode cX6_judge 52 = .ok (.ldc2_w 260, 3) := by decide +kernel
theorem dX6_judge_55 : decode cX6_judge 55 = .ok (.iload_n 1, 1) := by decide +kernel
theorem dX6_judge_56 : decode cX6_judge 56 = .ok (.iconst 1, 1) := by decide +kernel
theorem dX6_judge_57 : decode cX6_judge 57 = .ok (.isub, 1) := by decide +kernel
theorem dX6_judge_58 : decode cX6_judge 58 = .ok (.iload 4, 2) := by decide +kernel
theorem dX6_judge_60 : decode cX6_judge 60 = .ok (.isub, 1) := by decide +kernel
theorem dX6_judge_61 : decode cX6_judge 61 = .ok (.invokestatic 262, 3) := by decide +kernel
theorem dX6_judge_64 : decode cX6_judge 64 = .ok (.ldiv, 1) := by decide +kernel
theorem dX6_judge_65 : decode cX6_judge 65 = .ok (.ldc2_w 260, 3) := by decide +kernel
theorem dX6_judge_68 : decode cX6_judge 68 = .ok (.lrem, 1) := by decide +kernel
theorem dX6_judge_69 : decode cX6_judge 69 = .ok (.l2i, 1) := by decide +kernel
theorem dX6_judge_70 : decode cX6_judge 70 = .ok (.invokevirtual 266, 3) := by decide +kernel
theorem dX6_judge_73 : decode cX6_judge 73 = .ok (.ifCond .ne 6, 3) := by decide +kernel
theorem dX6_judge_76 : decode cX6_judge 76 = .ok (.iload 4, 2) := by decide +kernel
theorem dX6_judge_78 : decode cX6_judge 78 = .ok (.ireturn, 1) := by decide +kernel
theorem dX6_judge_79 : decode cX6_judge 79 = .ok (.iinc 4 1, 3) := by decide +kernel
theorem dX6_judge_82 : decode cX6_judge 82 = .ok (.goto (-38), 3) := by decide +kernel
theorem dX6_judge_85 : decode cX6_judge 85 = .ok (.bipush (-9), 2) := by decide +kernel
theorem dX6_judge_87 : decode cX6_judge 87 = .ok (.ireturn, 1) := by decide +kernel
set_option maxRecDepth 20000 in
theorem ggX6_judge_X6_layTrial : GoodIn wsX6_judge wsX6_layTrial := goodIn_r _ [14, 15, 16, 17, 18, 105, 106, 107, 108, 109, 110, 111, 112, 113, 114, 115, 116, 117, 118, 119, 120, 121, 122, 123, 124, 125, 126, 127, 128, 129, 130, 131, 132, 133, 134, 135, 136, 137, 138, 139, 140] rfl (by decide +kernel)
set_option maxRecDepth 20000 in
theorem gX6_judge_X6_layTrial : GoodIn wsX6_judge (wsV RX6 248 RX6 yX6_layTrial wsX6_layTrial) := goodIn_app (goodIn_of _ (by decide +kernel)) ggX6_judge_X6_layTrial
set_option maxRecDepth 20000 in
theorem ggX6_judge_X6_does : GoodIn wsX6_judge wsX6_does := goodIn_r _ [22, 15, 17, 23, 24, 6, 25, 26, 27, 28, 29, 30, 31, 32, 33, 34, 35, 36, 37, 38, 39, 40, 41, 42, 43, 44, 45, 46, 47, 48, 49, 50, 51, 52, 53, 54, 55, 56, 57, 58, 59, 60, 61, 62, 63, 64, 65, 66, 67, 68, 69, 70, 71, 72, 73, 74, 75, 76, 77, 78, 79, 80, 81, 82, 83, 84, 85, 86, 87, 88, 89, 90, 91, 92, 93, 94, 95, 96, 97, 98, 99, 100, 101, 102, 103, 104, 105, 106, 107, 108, 109, 110, 111, 112, 113, 114, 115, 116, 117, 118, 119, 120, 121, 122, 123, 124, 125, 126, 127, 128, 129, 130, 131, 132, 133, 134, 135, 136, 137, 138, 139, 140] rfl (by decide +kernel)
set_option maxRecDepth 20000 in
theorem gX6_judge_X6_does : GoodIn wsX6_judge (wsV RX6 266 RX6 yX6_does wsX6_does) := goodIn_app (goodIn_of _ (by decide +kernel)) ggX6_judge_X6_does
set_option maxRecDepth 100000 in
set_option maxHeartbeats 4000000 in
theorem m_X6_judge {l : Launch} {D : va_G} {E : Nat → ClassId} {T : Nat → Nat} (o : Nat) (xa : Nat) (fa : Nat) (wa : Nat) (la : Nat) (ta : Nat) (ma : Nat) (sa : Nat) (nw : Nat) (nf : Nat) (pa : Nat) (va : Nat) (ua : Nat) (ya : Nat) (B : Nat) (u0 : Value) (u1 : Value) (u2 : Value) (u7 : Value) (u8 : Value) (u9 : Value) (u10 : Value) (u15 : Value) (u16 : Value) (u17 : Value) (u18 : Value) (u19 : Value) (u20 : Value) (u21 : Value) (u22 : Value) (u23 : Value) (u24 : Value) (u25 : Value) (u26 : Value) (u34 : Value) (fl : Nat → Int32) (S : TS) (U : TS) (K : RJ) (n : Nat) (r9 : Nat) (hok : OkS B S) (hB : B + 300 < 2 ^ 31) (hnw : nw ≤ 6) (hnf : nf ≤ 6) (hn1 : 1 ≤ n) (hn : n ≤ 3) (h12 : ¬ lg_cmp (lN r9) 0 < 0) (h21 : lg_cmp (lN r9) (rwF n) < 0) (hr9 : r9 < 2 ^ 62) : g_ME l D E T yX6_judge wsX6_judge 8 199 [.ref o, .int (nI n), .long (lN r9)] [(o, .inr (6, [u0, u1, u2, .ref xa, .int (nI nw), .int (nI nf), .ref fa, u7, u8, u9, u10, .ref pa, .ref va, .ref ua, .ref ya, u15, u16, u17, u18, u19, u20, u21, u22, u23, u24, u25, u26, .ref wa, .ref la, .ref ta, .int (rS K), .int (rN K), .float (rH K), .ref ma, u34, .ref sa])), (xa, .inl (E 0, 12, .inl (g_tv 0))), (fa, .inl (E 0, 18, .inl fl)), (wa, .inl (E 0, 3, .inl (rW K))), (la, .inl (E 1, 4, .inr (.inr (.inl (rP K))))), (ta, .inl (E 1, 4, .inr (.inr (.inl (rT K))))), (ma, .inl (E 1, 3, .inr (.inr (.inl (rM K))))), (sa, .inl (E 0, 9, .inl (g_tv 1))), (pa, .inl (E 0, 29, .inl (pgF S))), (va, .inl (E 1, 5, .inr (.inr (.inl (fl5 S))))), (ua, .inl (E 0, 29, .inl (pgF U))), (ya, .inl (E 1, 5, .inr (.inr (.inl (fl5 U)))))] (fun (y9 : RJ × TS) => [(o, .inr (6, [.int 0, u1, u2, .ref xa, .int (nI nw), .int (nI nf), .ref fa, u7, u8, u9, u10, .ref pa, .ref va, .ref ua, .ref ya, u15, u16, u17, u18, u19, u20, u21, u22, u23, u24, u25, u26, .ref wa, .ref la, .ref ta, .int (rS y9.1), .int (rN y9.1), .float (rH y9.1), .ref ma, u34, .ref sa])), (xa, .inl (E 0, 12, .inl (g_tv 0))), (fa, .inl (E 0, 18, .inl fl)), (wa, .inl (E 0, 3, .inl (rW y9.1))), (la, .inl (E 1, 4, .inr (.inr (.inl (rP y9.1))))), (ta, .inl (E 1, 4, .inr (.inr (.inl (rT y9.1))))), (ma, .inl (E 1, 3, .inr (.inr (.inl (rM y9.1))))), (sa, .inl (E 0, 9, .inl (g_tv 1))), (pa, .inl (E 0, 29, .inl (pgF S))), (va, .inl (E 1, 5, .inr (.inr (.inl (fl5 S))))), (ua, .inl (E 0, 29, .inl (pgF y9.2))), (ya, .inl (E 1, 5, .inr (.inr (.inl (fl5 y9.2)))))]) (some (.int (sfI (jdB nw nf fl (x3F 0 0 0) n r9 S) n))) := by
  refine g_ME.of (cc := cX6_judge) (nL := 5) (ret := (some .int)) (own := RX6) (lv := [(0, .ref o), (1, .int (nI n)), (2, .long (lN r9))]) (by decide) rfl rfl (Nat.le_of_ble_eq_true rfl) rfl ?_
  intro p e R s m args below meth c A Q H locs ls hR hQ hc hr hw hl
  have hx := hc.1
  have hb := hc.2.1
  have hts := hc.2.2.2.1
  have hown := hc.2.2.2.2.1
  refine lv_aload_n hx hb dX6_judge_0 rfl (lv_at hl 0 rfl) ?_
  refine lv_iconst (v := 0) hx hb dX6_judge_1 (by decide) ?_
  refine g_put (TT := TX6) hc hw inX6_judge_X6 tyX6 tyX6_ok nmX6 0 0 1 rfl rfl (by decide) rfl rfl rfl rfl (Nat.le_of_ble_eq_true rfl) dX6_judge_2 (fun H locs hw => ?_)
  have hw : g_W D A s [(o, .inr (6, [.int 0, u1, u2, .ref xa, .int (nI nw), .int (nI nf), .ref fa, u7, u8, u9, u10, .ref pa, .ref va, .ref ua, .ref ya, u15, u16, u17, u18, u19, u20, u21, u22, u23, u24, u25, u26, .ref wa, .ref la, .ref ta, .int (rS K), .int (rN K), .float (rH K), .ref ma, u34, .ref sa])), (xa, .inl (E 0, 12, .inl (g_tv 0))), (fa, .inl (E 0, 18, .inl fl)), (wa, .inl (E 0, 3, .inl (rW K))), (la, .inl (E 1, 4, .inr (.inr (.inl (rP K))))), (ta, .inl (E 1, 4, .inr (.inr (.inl (rT K))))), (ma, .inl (E 1, 3, .inr (.inr (.inl (rM K))))), (sa, .inl (E 0, 9, .inl (g_tv 1))), (pa, .inl (E 0, 29, .inl (pgF S))), (va, .inl (E 1, 5, .inr (.inr (.inl (fl5 S))))), (ua, .inl (E 0, 29, .inl (pgF U))), (ya, .inl (E 1, 5, .inr (.inr (.inl (fl5 U)))))] H locs := hw
  refine lv_iload_n hx hb dX6_judge_5 rfl (lv_at hl 1 rfl) ?_
  refine lv_i2l hx hb dX6_judge_6 rfl ?_
  refine lv_lconst (v := 1) hx hb dX6_judge_7 (by decide) ?_
  refine lv_ldc2 (v := 3) hx hb hown (hts _ (List.mem_of_getElem? (i := 2) rfl)) dX6_judge_8 ?_
  refine g_cS (As := [.long ((nI n).toInt64), .long 1, .long 3]) (n := 3) (rest := []) (wc := []) (w1 := []) (bytes := cX6_in) (maxL := 6) (ret := (some .boolean)) hc hw hl.1 (m_X6_in (l := l) (D := D) (E := E) (T := T) ((nI n).toInt64) 1 3) gX6_judge_X6_in rfl (by decide +kernel) (by rw [hR]; exact ⟨Nat.le_of_ble_eq_true rfl, Nat.le_of_ble_eq_true rfl⟩) [] (by decide) rfl [] rfl rfl rfl rfl (Nat.le_of_ble_eq_true rfl) dX6_judge_11 ⟨Nat.zero_le _, Nat.zero_le _⟩ (fun H locs hw => ?_)
  have hw : g_W D A s [(o, .inr (6, [.int 0, u1, u2, .ref xa, .int (nI nw), .int (nI nf), .ref fa, u7, u8, u9, u10, .ref pa, .ref va, .ref ua, .ref ya, u15, u16, u17, u18, u19, u20, u21, u22, u23, u24, u25, u26, .ref wa, .ref la, .ref ta, .int (rS K), .int (rN K), .float (rH K), .ref ma, u34, .ref sa])), (xa, .inl (E 0, 12, .inl (g_tv 0))), (fa, .inl (E 0, 18, .inl fl)), (wa, .inl (E 0, 3, .inl (rW K))), (la, .inl (E 1, 4, .inr (.inr (.inl (rP K))))), (ta, .inl (E 1, 4, .inr (.inr (.inl (rT K))))), (ma, .inl (E 1, 3, .inr (.inr (.inl (rM K))))), (sa, .inl (E 0, 9, .inl (g_tv 1))), (pa, .inl (E 0, 29, .inl (pgF S))), (va, .inl (E 1, 5, .inr (.inr (.inl (fl5 S))))), (ua, .inl (E 0, 29, .inl (pgF U))), (ya, .inl (E 1, 5, .inr (.inr (.inl (fl5 U)))))] H locs := hw
  refine W.eq (congrArg (fun z => F0 m 14 ls (.int z :: [])) (show (b2i (inL ((nI n).toInt64) 1 3) : Int32) = 1 from (congrArg b2i (in_i (out_nf (n := n) (a := 1) (b := 3) (by omega) hn (by decide)) (by decide) (by decide))))) ?_
  refine lv_if_eq (tgt := 34) hx hb dX6_judge_14 (by decide) (fun c_14 => absurd c_14 (by decide)) (fun c_14 => ?_)
  refine lv_lload_n hx hb dX6_judge_17 rfl (lv_at hl 2 rfl) ?_
  refine lv_lconst (v := 0) hx hb dX6_judge_18 (by decide) ?_
  refine lv_ldc2 (v := 10000) hx hb hown (hts _ (List.mem_of_getElem? (i := 3) rfl)) dX6_judge_19 ?_
  refine lv_iload_n hx hb dX6_judge_22 rfl (lv_at hl 1 rfl) ?_
  refine g_cS (As := [.long 10000, .int (nI n)]) (n := 2) (rest := [.long 0, .long (lN r9)]) (wc := []) (w1 := []) (bytes := cX6_longPower) (maxL := 6) (ret := (some .long)) hc hw hl.1 (m_X6_longPower (l := l) (D := D) (E := E) (T := T) n (by omega)) gX6_judge_X6_longPower rfl (by decide +kernel) (by rw [hR]; exact ⟨Nat.le_of_ble_eq_true rfl, Nat.le_of_ble_eq_true rfl⟩) [] (by decide) rfl [] rfl rfl rfl rfl (Nat.le_of_ble_eq_true rfl) dX6_judge_23 ⟨Nat.zero_le _, Nat.zero_le _⟩ (fun H locs hw => ?_)
  have hw : g_W D A s [(o, .inr (6, [.int 0, u1, u2, .ref xa, .int (nI nw), .int (nI nf), .ref fa, u7, u8, u9, u10, .ref pa, .ref va, .ref ua, .ref ya, u15, u16, u17, u18, u19, u20, u21, u22, u23, u24, u25, u26, .ref wa, .ref la, .ref ta, .int (rS K), .int (rN K), .float (rH K), .ref ma, u34, .ref sa])), (xa, .inl (E 0, 12, .inl (g_tv 0))), (fa, .inl (E 0, 18, .inl fl)), (wa, .inl (E 0, 3, .inl (rW K))), (la, .inl (E 1, 4, .inr (.inr (.inl (rP K))))), (ta, .inl (E 1, 4, .inr (.inr (.inl (rT K))))), (ma, .inl (E 1, 3, .inr (.inr (.inl (rM K))))), (sa, .inl (E 0, 9, .inl (g_tv 1))), (pa, .inl (E 0, 29, .inl (pgF S))), (va, .inl (E 1, 5, .inr (.inr (.inl (fl5 S))))), (ua, .inl (E 0, 29, .inl (pgF U))), (ya, .inl (E 1, 5, .inr (.inr (.inl (fl5 U)))))] H locs := hw
  refine lv_lconst (v := 1) hx hb dX6_judge_26 (by decide) ?_
  refine lv_lsub hx hb dX6_judge_27 ?_
  refine g_cS (As := [.long (lN r9), .long 0, .long ((rwF n) - 1)]) (n := 3) (rest := []) (wc := []) (w1 := []) (bytes := cX6_in) (maxL := 6) (ret := (some .boolean)) hc hw hl.1 (m_X6_in (l := l) (D := D) (E := E) (T := T) (lN r9) 0 ((rwF n) - 1)) gX6_judge_X6_in rfl (by decide +kernel) (by rw [hR]; exact ⟨Nat.le_of_ble_eq_true rfl, Nat.le_of_ble_eq_true rfl⟩) [] (by decide) rfl [] rfl rfl rfl rfl (Nat.le_of_ble_eq_true rfl) dX6_judge_28 ⟨Nat.zero_le _, Nat.zero_le _⟩ (fun H locs hw => ?_)
  have hw : g_W D A s [(o, .inr (6, [.int 0, u1, u2, .ref xa, .int (nI nw), .int (nI nf), .ref fa, u7, u8, u9, u10, .ref pa, .ref va, .ref ua, .ref ya, u15, u16, u17, u18, u19, u20, u21, u22, u23, u24, u25, u26, .ref wa, .ref la, .ref ta, .int (rS K), .int (rN K), .float (rH K), .ref ma, u34, .ref sa])), (xa, .inl (E 0, 12, .inl (g_tv 0))), (fa, .inl (E 0, 18, .inl fl)), (wa, .inl (E 0, 3, .inl (rW K))), (la, .inl (E 1, 4, .inr (.inr (.inl (rP K))))), (ta, .inl (E 1, 4, .inr (.inr (.inl (rT K))))), (ma, .inl (E 1, 3, .inr (.inr (.inl (rM K))))), (sa, .inl (E 0, 9, .inl (g_tv 1))), (pa, .inl (E 0, 29, .inl (pgF S))), (va, .inl (E 1, 5, .inr (.inr (.inl (fl5 S))))), (ua, .inl (E 0, 29, .inl (pgF U))), (ya, .inl (E 1, 5, .inr (.inr (.inl (fl5 U)))))] H locs := hw
  refine W.eq (congrArg (fun z => F0 m 31 ls (.int z :: [])) (show (b2i (inL (lN r9) 0 ((rwF n) - 1)) : Int32) = 1 from (congrArg b2i (rw_in hn1 hn h12 h21)))) ?_
  refine lv_if_ne (tgt := 37) hx hb dX6_judge_31 (by decide) (fun c_31 => ?_) (fun c_31 => absurd c_31 (by decide))
  refine lv_aload_n hx hb dX6_judge_37 rfl (lv_at hl 0 rfl) ?_
  refine g_cV (As := []) (n := 0) (rest := []) (wc := [(o, .inr (6, [.int 0, u1, u2, .ref xa, .int (nI nw), .int (nI nf), .ref fa, u7, u8, u9, u10, .ref pa, .ref va, .ref ua, .ref ya, u15, u16, u17, u18, u19, u20, u21, u22, u23, u24, u25, u26, .ref wa, .ref la, .ref ta, .int (rS K), .int (rN K), .float (rH K), .ref ma, u34, .ref sa])), (pa, .inl (E 0, 29, .inl (pgF S))), (va, .inl (E 1, 5, .inr (.inr (.inl (fl5 S))))), (ua, .inl (E 0, 29, .inl (pgF U))), (ya, .inl (E 1, 5, .inr (.inr (.inl (fl5 U)))))]) (w1 := [(o, .inr (6, [.int 0, u1, u2, .ref xa, .int (nI nw), .int (nI nf), .ref fa, u7, u8, u9, u10, .ref pa, .ref va, .ref ua, .ref ya, u15, u16, u17, u18, u19, u20, u21, u22, u23, u24, u25, u26, .ref wa, .ref la, .ref ta, .int (rS K), .int (rN K), .float (rH K), .ref ma, u34, .ref sa])), (pa, .inl (E 0, 29, .inl (pgF S))), (va, .inl (E 1, 5, .inr (.inr (.inl (fl5 S))))), (ua, .inl (E 0, 29, .inl (pgF S))), (ya, .inl (E 1, 5, .inr (.inr (.inl (fl5 S)))))]) (bytes := cX6_layTrial) (maxL := 2) (ret := none) hc hw hl.1 (m_X6_layTrial (l := l) (D := D) (E := E) (T := T) o (.int 0) u1 u2 (.ref xa) (.int (nI nw)) (.int (nI nf)) (.ref fa) u7 u8 u9 u10 u15 u16 u17 u18 u19 u20 u21 u22 u23 u24 u25 u26 (.ref wa) (.ref la) (.ref ta) (.int (rS K)) (.int (rN K)) (.float (rH K)) (.ref ma) u34 (.ref sa) pa va ua ya (pgF S) (fl5 S) (pgF U) (fl5 U)) gX6_judge_X6_layTrial rfl (by decide +kernel) (by rw [hR]; exact ⟨Nat.le_of_ble_eq_true rfl, Nat.le_of_ble_eq_true rfl⟩) [0, 8, 9, 10, 11] 0 6 rfl rfl (by decide) rfl [o, pa, va, ua, ya] rfl rfl rfl rfl (Nat.le_of_ble_eq_true rfl) dX6_judge_38 ⟨Nat.zero_le _, Nat.zero_le _⟩ (fun H locs hw => ?_)
  have hw : g_W D A s [(o, .inr (6, [.int 0, u1, u2, .ref xa, .int (nI nw), .int (nI nf), .ref fa, u7, u8, u9, u10, .ref pa, .ref va, .ref ua, .ref ya, u15, u16, u17, u18, u19, u20, u21, u22, u23, u24, u25, u26, .ref wa, .ref la, .ref ta, .int (rS K), .int (rN K), .float (rH K), .ref ma, u34, .ref sa])), (xa, .inl (E 0, 12, .inl (g_tv 0))), (fa, .inl (E 0, 18, .inl fl)), (wa, .inl (E 0, 3, .inl (rW K))), (la, .inl (E 1, 4, .inr (.inr (.inl (rP K))))), (ta, .inl (E 1, 4, .inr (.inr (.inl (rT K))))), (ma, .inl (E 1, 3, .inr (.inr (.inl (rM K))))), (sa, .inl (E 0, 9, .inl (g_tv 1))), (pa, .inl (E 0, 29, .inl (pgF S))), (va, .inl (E 1, 5, .inr (.inr (.inl (fl5 S))))), (ua, .inl (E 0, 29, .inl (pgF S))), (ya, .inl (E 1, 5, .inr (.inr (.inl (fl5 S)))))] H locs := hw
  refine lv_iconst (v := 0) hx hb dX6_judge_41 (by decide) ?_
  refine lv_istore (lv' := [(4, .int 0), (0, .ref o), (1, .int (nI n)), (2, .long (lN r9))]) hx hb dX6_judge_42 hl (by decide) rfl (fun ls hl => ?_)
  have J44 : ∀ (k9 : Nat) (i : Nat), i + k9 = n → ∀ (K1 : RJ), (∀ j, j < i → jdB nw nf fl (x3F 0 0 0) n r9 S j = false) → ∀ (H : Heap) (locs : List Loc) (ls : Array Slot), g_W D A s [(o, .inr (6, [.int 0, u1, u2, .ref xa, .int (nI nw), .int (nI nf), .ref fa, u7, u8, u9, u10, .ref pa, .ref va, .ref ua, .ref ya, u15, u16, u17, u18, u19, u20, u21, u22, u23, u24, u25, u26, .ref wa, .ref la, .ref ta, .int (rS K1), .int (rN K1), .float (rH K1), .ref ma, u34, .ref sa])), (xa, .inl (E 0, 12, .inl (g_tv 0))), (fa, .inl (E 0, 18, .inl fl)), (wa, .inl (E 0, 3, .inl (rW K1))), (la, .inl (E 1, 4, .inr (.inr (.inl (rP K1))))), (ta, .inl (E 1, 4, .inr (.inr (.inl (rT K1))))), (ma, .inl (E 1, 3, .inr (.inr (.inl (rM K1))))), (sa, .inl (E 0, 9, .inl (g_tv 1))), (pa, .inl (E 0, 29, .inl (pgF S))), (va, .inl (E 1, 5, .inr (.inr (.inl (fl5 S))))), (ua, .inl (E 0, 29, .inl (pgF (jdS nw nf fl (x3F 0 0 0) n r9 S i)))), (ya, .inl (E 1, 5, .inr (.inr (.inl (fl5 (jdS nw nf fl (x3F 0 0 0) n r9 S i))))))] H locs → lv_has ls 5 [(0, .ref o), (1, .int (nI n)), (2, .long (lN r9)), (4, .int (nI i))] → W p l e R s m args below meth c H locs 0 0 Q (F0 m 44 ls []) := by
    intro k9
    induction k9 with
    | zero =>
      intro i h9 K1 hall H locs ls hw hl
      have h9 : n = i := Eq.symm h9
      subst h9
      refine lv_iload hx hb dX6_judge_44 (lv_at hl 3 rfl) ?_
      refine lv_iload_n hx hb dX6_judge_46 rfl (lv_at hl 1 rfl) ?_
      refine lv_icmp_ge (tgt := 85) hx hb dX6_judge_47 (by decide) (fun c_47 => ?_) (fun c_47 => absurd (by exact Int32.le_refl _) c_47)
      refine lv_bipush (v := (-9)) hx hb dX6_judge_85 (by decide) ?_
      exact g_iretE (K1, (jdS nw nf fl (x3F 0 0 0) n r9 S n)) hQ hc hw hr (by exact congrArg (fun z => some (Value.int z)) (sfI_none hall)) rfl dX6_judge_87
    | succ k9 ih =>
      intro i h9 K1 hall H locs ls hw hl
      have h9b : i < n := by omega
      refine lv_iload hx hb dX6_judge_44 (lv_at hl 3 rfl) ?_
      refine lv_iload_n hx hb dX6_judge_46 rfl (lv_at hl 1 rfl) ?_
      refine lv_icmp_ge (tgt := 85) hx hb dX6_judge_47 (by decide) (fun c_47 => absurd c_47 (nI_ge (show i < n by omega) (by omega))) (fun c_47 => ?_)
      refine lv_aload_n hx hb dX6_judge_50 rfl (lv_at hl 0 rfl) ?_
      refine lv_lload_n hx hb dX6_judge_51 rfl (lv_at hl 2 rfl) ?_
      refine lv_ldc2 (v := 10000) hx hb hown (hts _ (List.mem_of_getElem? (i := 3) rfl)) dX6_judge_52 ?_
      refine lv_iload_n hx hb dX6_judge_55 rfl (lv_at hl 1 rfl) ?_
      refine lv_iconst (v := 1) hx hb dX6_judge_56 (by decide) ?_
      refine lv_isub hx hb dX6_judge_57 ?_
      refine lv_iload hx hb dX6_judge_58 (lv_at hl 3 rfl) ?_
      refine lv_isub hx hb dX6_judge_60 ?_
      refine W.eq (congrArg (fun z => F0 m 61 ls (.int z :: [.long 10000, .long (lN r9), .ref o])) (show (((nI n) - 1) - (nI i) : Int32) = nI (n - 1 - i) from (n_sub (n_sub (b := 1) rfl rfl (by omega)) rfl (by omega)))) ?_
      refine g_cS (As := [.long 10000, .int (nI (n - 1 - i))]) (n := 2) (rest := [.long (lN r9), .ref o]) (wc := []) (w1 := []) (bytes := cX6_longPower) (maxL := 6) (ret := (some .long)) hc hw hl.1 (m_X6_longPower (l := l) (D := D) (E := E) (T := T) (n - 1 - i) (by omega)) gX6_judge_X6_longPower rfl (by decide +kernel) (by rw [hR]; exact ⟨Nat.le_of_ble_eq_true rfl, Nat.le_of_ble_eq_true rfl⟩) [] (by decide) rfl [] rfl rfl rfl rfl (Nat.le_of_ble_eq_true rfl) dX6_judge_61 ⟨Nat.zero_le _, Nat.zero_le _⟩ (fun H locs hw => ?_)
      have hw : g_W D A s [(o, .inr (6, [.int 0, u1, u2, .ref xa, .int (nI nw), .int (nI nf), .ref fa, u7, u8, u9, u10, .ref pa, .ref va, .ref ua, .ref ya, u15, u16, u17, u18, u19, u20, u21, u22, u23, u24, u25, u26, .ref wa, .ref la, .ref ta, .int (rS K1), .int (rN K1), .float (rH K1), .ref ma, u34, .ref sa])), (xa, .inl (E 0, 12, .inl (g_tv 0))), (fa, .inl (E 0, 18, .inl fl)), (wa, .inl (E 0, 3, .inl (rW K1))), (la, .inl (E 1, 4, .inr (.inr (.inl (rP K1))))), (ta, .inl (E 1, 4, .inr (.inr (.inl (rT K1))))), (ma, .inl (E 1, 3, .inr (.inr (.inl (rM K1))))), (sa, .inl (E 0, 9, .inl (g_tv 1))), (pa, .inl (E 0, 29, .inl (pgF S))), (va, .inl (E 1, 5, .inr (.inr (.inl (fl5 S))))), (ua, .inl (E 0, 29, .inl (pgF (jdS nw nf fl (x3F 0 0 0) n r9 S i)))), (ya, .inl (E 1, 5, .inr (.inr (.inl (fl5 (jdS nw nf fl (x3F 0 0 0) n r9 S i))))))] H locs := hw
      refine lv_ldiv hx hb dX6_judge_64 (rw_ne (by omega)) ?_
      refine lv_ldc2 (v := 10000) hx hb hown (hts _ (List.mem_of_getElem? (i := 3) rfl)) dX6_judge_65 ?_
      refine lv_lrem hx hb dX6_judge_68 (by decide) ?_
      refine lv_l2i hx hb dX6_judge_69 rfl ?_
      refine W.eq (congrArg (fun z => F0 m 70 ls (.int z :: [.ref o])) (show ((((lN r9) / (rwF (n - 1 - i))) - ((lN r9) / (rwF (n - 1 - i))) / 10000 * 10000).toInt32 : Int32) = nI (stN n r9 i) from (st_n r9 n i hr9 (by omega)))) ?_
      refine g_cEV (As := [.int (nI (stN n r9 i))]) (n := 1) (rest := []) (wc := [(o, .inr (6, [.int 0, u1, u2, .ref xa, .int (nI nw), .int (nI nf), .ref fa, u7, u8, u9, u10, .ref pa, .ref va, .ref ua, .ref ya, u15, u16, u17, u18, u19, u20, u21, u22, u23, u24, u25, u26, .ref wa, .ref la, .ref ta, .int (rS K1), .int (rN K1), .float (rH K1), .ref ma, u34, .ref sa])), (xa, .inl (E 0, 12, .inl (g_tv 0))), (fa, .inl (E 0, 18, .inl fl)), (wa, .inl (E 0, 3, .inl (rW K1))), (la, .inl (E 1, 4, .inr (.inr (.inl (rP K1))))), (ta, .inl (E 1, 4, .inr (.inr (.inl (rT K1))))), (ma, .inl (E 1, 3, .inr (.inr (.inl (rM K1))))), (sa, .inl (E 0, 9, .inl (g_tv 1))), (ua, .inl (E 0, 29, .inl (pgF (jdS nw nf fl (x3F 0 0 0) n r9 S i)))), (ya, .inl (E 1, 5, .inr (.inr (.inl (fl5 (jdS nw nf fl (x3F 0 0 0) n r9 S i))))))]) (w1 := (fun (K1 : RJ) => [(o, .inr (6, [.int 0, u1, u2, .ref xa, .int (nI nw), .int (nI nf), .ref fa, u7, u8, u9, u10, .ref pa, .ref va, .ref ua, .ref ya, u15, u16, u17, u18, u19, u20, u21, u22, u23, u24, u25, u26, .ref wa, .ref la, .ref ta, .int (rS K1), .int (rN K1), .float (rH K1), .ref ma, u34, .ref sa])), (xa, .inl (E 0, 12, .inl (g_tv 0))), (fa, .inl (E 0, 18, .inl fl)), (wa, .inl (E 0, 3, .inl (rW K1))), (la, .inl (E 1, 4, .inr (.inr (.inl (rP K1))))), (ta, .inl (E 1, 4, .inr (.inr (.inl (rT K1))))), (ma, .inl (E 1, 3, .inr (.inr (.inl (rM K1))))), (sa, .inl (E 0, 9, .inl (g_tv 1))), (ua, .inl (E 0, 29, .inl (pgF (hdS nw nf fl (x3F 0 0 0) (stN n r9 i) (jdS nw nf fl (x3F 0 0 0) n r9 S i))))), (ya, .inl (E 1, 5, .inr (.inr (.inl (fl5 (hdS nw nf fl (x3F 0 0 0) (stN n r9 i) (jdS nw nf fl (x3F 0 0 0) n r9 S i)))))))])) (bytes := cX6_does) (maxL := 7) (ret := (some .boolean)) hc hw hl.1 (m_X6_does (l := l) (D := D) (E := E) (T := T) o xa fa wa la ta ma sa nw nf ua ya (B + 99 * i) (.int 0) u1 u2 u7 u8 u9 u10 (.ref pa) (.ref va) u15 u16 u17 u18 u19 u20 u21 u22 u23 u24 u25 u26 u34 fl (jdS nw nf fl (x3F 0 0 0) n r9 S i) K1 (stN n r9 i) (hok.jd nw nf fl (x3F 0 0 0) n r9 i) (by omega) (by first | assumption | omega | decide) (by first | assumption | omega | decide) (stN_lt n r9 i)) gX6_judge_X6_does rfl (by decide +kernel) (by rw [hR]; exact ⟨Nat.le_of_ble_eq_true rfl, Nat.le_of_ble_eq_true rfl⟩) [0, 1, 2, 3, 4, 5, 6, 7, 10, 11] 0 6 rfl rfl (by decide) rfl [o, xa, fa, wa, la, ta, ma, sa, ua, ya] (fun _ => rfl) rfl rfl rfl (Nat.le_of_ble_eq_true rfl) dX6_judge_70 ⟨Nat.zero_le _, Nat.zero_le _⟩ (fun u_1 H locs hw => ?_)
      obtain ⟨K1_u_1, rfl⟩ : ∃ z, z = u_1 := ⟨_, rfl⟩
      have hw : g_W D A s [(o, .inr (6, [.int 0, u1, u2, .ref xa, .int (nI nw), .int (nI nf), .ref fa, u7, u8, u9, u10, .ref pa, .ref va, .ref ua, .ref ya, u15, u16, u17, u18, u19, u20, u21, u22, u23, u24, u25, u26, .ref wa, .ref la, .ref ta, .int (rS K1_u_1), .int (rN K1_u_1), .float (rH K1_u_1), .ref ma, u34, .ref sa])), (xa, .inl (E 0, 12, .inl (g_tv 0))), (fa, .inl (E 0, 18, .inl fl)), (wa, .inl (E 0, 3, .inl (rW K1_u_1))), (la, .inl (E 1, 4, .inr (.inr (.inl (rP K1_u_1))))), (ta, .inl (E 1, 4, .inr (.inr (.inl (rT K1_u_1))))), (ma, .inl (E 1, 3, .inr (.inr (.inl (rM K1_u_1))))), (sa, .inl (E 0, 9, .inl (g_tv 1))), (pa, .inl (E 0, 29, .inl (pgF S))), (va, .inl (E 1, 5, .inr (.inr (.inl (fl5 S))))), (ua, .inl (E 0, 29, .inl (pgF (hdS nw nf fl (x3F 0 0 0) (stN n r9 i) (jdS nw nf fl (x3F 0 0 0) n r9 S i))))), (ya, .inl (E 1, 5, .inr (.inr (.inl (fl5 (hdS nw nf fl (x3F 0 0 0) (stN n r9 i) (jdS nw nf fl (x3F 0 0 0) n r9 S i)))))))] H locs := hw
      refine lv_if_ne (tgt := 79) hx hb dX6_judge_73 (by decide) (fun c_73 => ?_) (fun c_73 => ?_)
      · skip
        have k_73 := b2i_ne c_73
        refine lv_iinc (v := nI (i + 1)) (lv' := [(4, .int (nI (i + 1))), (0, .ref o), (1, .int (nI n)), (2, .long (lN r9))]) hx hb dX6_judge_79 hl (k := 3) rfl (n_inc1 rfl) (by decide) rfl (fun ls hl => ?_)
        refine lv_goto (tgt := 44) hx hb dX6_judge_82 (by decide) ?_
        have hw : g_W D A s [(o, .inr (6, [.int 0, u1, u2, .ref xa, .int (nI nw), .int (nI nf), .ref fa, u7, u8, u9, u10, .ref pa, .ref va, .ref ua, .ref ya, u15, u16, u17, u18, u19, u20, u21, u22, u23, u24, u25, u26, .ref wa, .ref la, .ref ta, .int (rS K1_u_1), .int (rN K1_u_1), .float (rH K1_u_1), .ref ma, u34, .ref sa])), (xa, .inl (E 0, 12, .inl (g_tv 0))), (fa, .inl (E 0, 18, .inl fl)), (wa, .inl (E 0, 3, .inl (rW K1_u_1))), (la, .inl (E 1, 4, .inr (.inr (.inl (rP K1_u_1))))), (ta, .inl (E 1, 4, .inr (.inr (.inl (rT K1_u_1))))), (ma, .inl (E 1, 3, .inr (.inr (.inl (rM K1_u_1))))), (sa, .inl (E 0, 9, .inl (g_tv 1))), (pa, .inl (E 0, 29, .inl (pgF S))), (va, .inl (E 1, 5, .inr (.inr (.inl (fl5 S))))), (ua, .inl (E 0, 29, .inl (pgF (jdS nw nf fl (x3F 0 0 0) n r9 S (i + 1))))), (ya, .inl (E 1, 5, .inr (.inr (.inl (fl5 (jdS nw nf fl (x3F 0 0 0) n r9 S (i + 1)))))))] H locs := by
          exact hw
        exact ih (i + 1) (by omega) K1_u_1 (all_f hall (by rw [jdB, k_73]; rfl)) _ _ _ hw (lv_sub hl [1, 2, 3, 0] rfl)
      · skip
        have k_73 := b2i_eq c_73
        refine lv_iload hx hb dX6_judge_76 (lv_at hl 3 rfl) ?_
        exact g_iretE (K1_u_1, (hdS nw nf fl (x3F 0 0 0) (stN n r9 i) (jdS nw nf fl (x3F 0 0 0) n r9 S i))) hQ hc hw hr (by exact congrArg (fun z => some (Value.int z)) (sfI_some hall (by rw [jdB, k_73]; rfl) (by omega))) rfl dX6_judge_78
  have hw : g_W D A s [(o, .inr (6, [.int 0, u1, u2, .ref xa, .int (nI nw), .int (nI nf), .ref fa, u7, u8, u9, u10, .ref pa, .ref va, .ref ua, .ref ya, u15, u16, u17, u18, u19, u20, u21, u22, u23, u24, u25, u26, .ref wa, .ref la, .ref ta, .int (rS K), .int (rN K), .float (rH K), .ref ma, u34, .ref sa])), (xa, .inl (E 0, 12, .inl (g_tv 0))), (fa, .inl (E 0, 18, .inl fl)), (wa, .inl (E 0, 3, .inl (rW K))), (la, .inl (E 1, 4, .inr (.inr (.inl (rP K))))), (ta, .inl (E 1, 4, .inr (.inr (.inl (rT K))))), (ma, .inl (E 1, 3, .inr (.inr (.inl (rM K))))), (sa, .inl (E 0, 9, .inl (g_tv 1))), (pa, .inl (E 0, 29, .inl (pgF S))), (va, .inl (E 1, 5, .inr (.inr (.inl (fl5 S))))), (ua, .inl (E 0, 29, .inl (pgF (jdS nw nf fl (x3F 0 0 0) n r9 S 0)))), (ya, .inl (E 1, 5, .inr (.inr (.inl (fl5 (jdS nw nf fl (x3F 0 0 0) n r9 S 0))))))] H locs := by
    exact hw
  exact J44 n 0 (by omega) K (fun j hj => absurd hj (Nat.not_lt_zero j)) _ _ _ hw (lv_sub hl [1, 2, 3, 0] rfl)

theorem dX6_share_0 : decode cX6_share 0 = .ok (.aload_n 0, 1) := by decide +kernel
theorem dX6_share_1 : decode cX6_share 1 = .ok (.iconst 0, 1) := by decide +kernel
theorem dX6_share_2 : decode cX6_share 2 = .ok (.putfield 88, 3) := by decide +kernel
theorem dX6_share_5 : decode cX6_share 5 = .ok (.iload_n 1, 1) := by decide +kernel
theorem dX6_share_6 : decode cX6_share 6 = .ok (.invokestatic 213, 3) := by decide +kernel
theorem dX6_share_9 : decode cX6_share 9 = .ok (.ifCond .eq 5, 3) := by decide +kernel
theorem dX6_share_12 : decode cX6_share 12 = .ok (.iconst (-1), 1) := by decide +kernel
theorem dX6_share_13 : decode cX6_share 13 = .ok (.ireturn, 1) := by decide +kernel
set_option maxRecDepth 20000 in
theorem ggX6_share_X6_noWheel : GoodIn wsX6_share wsX6_noWheel := goodIn_r _ [7, 8, 9, 10, 6, 11] rfl (by decide +kernel)
set_option maxRecDepth 20000 in
theorem gX6_share_X6_noWheel : GoodIn wsX6_share (va_wsS RX6 213 yX6_noWheel wsX6_noWheel) := goodIn_app (goodIn_of _ (by decide +kernel)) ggX6_share_X6_noWheel
theorem inX6_share_X6 : ∀ w ∈ u_ws RX6 TX6 36, w ∈ wsX6_share := fun w h => List.mem_cons_of_mem _ (List.mem_append_right _ h)
set_option maxRecDepth 100000 in
set_option maxHeartbeats 4000000 in
theorem m_X6_share_out {l : Launch} {D : va_G} {E : Nat → ClassId} {T : Nat → Nat} (o : Nat) (u0 : Value) (u1 : Value) (u2 : Value) (u3 : Value) (u4 : Value) (u5 : Value) (u6 : Value) (u7 : Value) (u8 : Value) (u9 : Value) (u10 : Value) (u11 : Value) (u12 : Value) (u13 : Value) (u14 : Value) (u15 : Value) (u16 : Value) (u17 : Value) (u18 : Value) (u19 : Value) (u20 : Value) (u21 : Value) (u22 : Value) (u23 : Value) (u24 : Value) (u25 : Value) (u26 : Value) (u27 : Value) (u28 : Value) (u29 : Value) (u30 : Value) (u31 : Value) (u32 : Value) (u33 : Value) (u34 : Value) (u35 : Value) (v : Int32) (b : Int32) (ho : outB v 0 3 = true) : g_M l D E T yX6_share wsX6_share 2 45 [.ref o, .int v, .int b] [(o, .inr (6, [u0, u1, u2, u3, u4, u5, u6, u7, u8, u9, u10, u11, u12, u13, u14, u15, u16, u17, u18, u19, u20, u21, u22, u23, u24, u25, u26, u27, u28, u29, u30, u31, u32, u33, u34, u35]))] [(o, .inr (6, [.int 0, u1, u2, u3, u4, u5, u6, u7, u8, u9, u10, u11, u12, u13, u14, u15, u16, u17, u18, u19, u20, u21, u22, u23, u24, u25, u26, u27, u28, u29, u30, u31, u32, u33, u34, u35]))] (some (.int (-1))) := by
  refine g_M.of (cc := cX6_share) (nL := 9) (ret := (some .int)) (own := RX6) (lv := [(0, .ref o), (1, .int v), (2, .int b)]) (by decide) rfl rfl (Nat.le_of_ble_eq_true rfl) rfl ?_
  intro p e R s m args below meth c A Q H locs ls hR hQ hc hr hw hl
  have hx := hc.1
  have hb := hc.2.1
  have hts := hc.2.2.2.1
  have hown := hc.2.2.2.2.1
  refine lv_aload_n hx hb dX6_share_0 rfl (lv_at hl 0 rfl) ?_
  refine lv_iconst (v := 0) hx hb dX6_share_1 (by decide) ?_
  refine g_put (TT := TX6) hc hw inX6_share_X6 tyX6 tyX6_ok nmX6 0 0 1 rfl rfl (by decide) rfl rfl rfl rfl (Nat.le_of_ble_eq_true rfl) dX6_share_2 (fun H locs hw => ?_)
  have hw : g_W D A s [(o, .inr (6, [.int 0, u1, u2, u3, u4, u5, u6, u7, u8, u9, u10, u11, u12, u13, u14, u15, u16, u17, u18, u19, u20, u21, u22, u23, u24, u25, u26, u27, u28, u29, u30, u31, u32, u33, u34, u35]))] H locs := hw
  refine lv_iload_n hx hb dX6_share_5 rfl (lv_at hl 1 rfl) ?_
  refine g_cS (As := [.int v]) (n := 1) (rest := []) (wc := []) (w1 := []) (bytes := cX6_noWheel) (maxL := 1) (ret := (some .boolean)) hc hw hl.1 (m_X6_noWheel (l := l) (D := D) (E := E) (T := T) v) gX6_share_X6_noWheel rfl (by decide +kernel) (by rw [hR]; exact ⟨Nat.le_of_ble_eq_true rfl, Nat.le_of_ble_eq_true rfl⟩) [] (by decide) rfl [] rfl rfl rfl rfl (Nat.le_of_ble_eq_true rfl) dX6_share_6 ⟨Nat.zero_le _, Nat.zero_le _⟩ (fun H locs hw => ?_)
  have hw : g_W D A s [(o, .inr (6, [.int 0, u1, u2, u3, u4, u5, u6, u7, u8, u9, u10, u11, u12, u13, u14, u15, u16, u17, u18, u19, u20, u21, u22, u23, u24, u25, u26, u27, u28, u29, u30, u31, u32, u33, u34, u35]))] H locs := hw
  refine W.eq (congrArg (fun z => F0 m 9 ls (.int z :: [])) (show (b2i (outB v 0 3) : Int32) = 1 from (congrArg b2i ho))) ?_
  refine lv_if_eq (tgt := 14) hx hb dX6_share_9 (by decide) (fun c_9 => absurd c_9 (by decide)) (fun c_9 => ?_)
  refine lv_iconst (v := (-1)) hx hb dX6_share_12 (by decide) ?_
  exact g_iret hQ hc hw hr rfl rfl dX6_share_13

theorem dX6_share_14 : decode cX6_share 14 = .ok (.aload_n 0, 1) := by decide +kernel
theorem dX6_share_15 : decode cX6_share 15 = .ok (.getfield 25, 3) := by decide +kernel
theorem dX6_share_18 : decode cX6_share 18 = .ok (.iconst 0, 1) := by decide +kernel
theorem dX6_share_19 : decode cX6_share 19 = .ok (.iaload, 1) := by decide +kernel
theorem dX6_share_20 : decode cX6_share 20 = .ok (.iload_n 1, 1) := by decide +kernel
theorem dX6_share_21 : decode cX6_share 21 = .ok (.invokestatic 139, 3) := by decide +kernel
theorem dX6_share_24 : decode cX6_share 24 = .ok (.ifCond .eq 6, 3) := by decide +kernel
theorem dX6_share_27 : decode cX6_share 27 = .ok (.bipush (-3), 2) := by decide +kernel
theorem dX6_share_29 : decode cX6_share 29 = .ok (.ireturn, 1) := by decide +kernel
set_option maxRecDepth 20000 in
theorem ggX6_share_X6_has : GoodIn wsX6_share wsX6_has := goodIn_r _ [14] rfl (by decide +kernel)
set_option maxRecDepth 20000 in
theorem gX6_share_X6_has : GoodIn wsX6_share (va_wsS RX6 139 yX6_has wsX6_has) := goodIn_app (goodIn_of _ (by decide +kernel)) ggX6_share_X6_has
set_option maxRecDepth 100000 in
set_option maxHeartbeats 4000000 in
theorem m_X6_share_no {l : Launch} {D : va_G} {E : Nat → ClassId} {T : Nat → Nat} (o : Nat) (pa : Nat) (i : Nat) (u0 : Value) (u1 : Value) (u2 : Value) (u3 : Value) (u4 : Value) (u5 : Value) (u6 : Value) (u7 : Value) (u8 : Value) (u9 : Value) (u10 : Value) (u12 : Value) (u13 : Value) (u14 : Value) (u15 : Value) (u16 : Value) (u17 : Value) (u18 : Value) (u19 : Value) (u20 : Value) (u21 : Value) (u22 : Value) (u23 : Value) (u24 : Value) (u25 : Value) (u26 : Value) (u27 : Value) (u28 : Value) (u29 : Value) (u30 : Value) (u31 : Value) (u32 : Value) (u33 : Value) (u34 : Value) (u35 : Value) (S : TS) (b : Int32) (hi9 : i ≤ 3) (hd : sD S < 16) (hal : (sD S).testBit i = true) : g_M l D E T yX6_share wsX6_share 2 45 [.ref o, .int (nI i), .int b] [(o, .inr (6, [u0, u1, u2, u3, u4, u5, u6, u7, u8, u9, u10, .ref pa, u12, u13, u14, u15, u16, u17, u18, u19, u20, u21, u22, u23, u24, u25, u26, u27, u28, u29, u30, u31, u32, u33, u34, u35])), (pa, .inl (E 0, 29, .inl (pgF S)))] [(o, .inr (6, [.int 0, u1, u2, u3, u4, u5, u6, u7, u8, u9, u10, .ref pa, u12, u13, u14, u15, u16, u17, u18, u19, u20, u21, u22, u23, u24, u25, u26, u27, u28, u29, u30, u31, u32, u33, u34, u35])), (pa, .inl (E 0, 29, .inl (pgF S)))] (some (.int (-3))) := by
  refine g_M.of (cc := cX6_share) (nL := 9) (ret := (some .int)) (own := RX6) (lv := [(0, .ref o), (1, .int (nI i)), (2, .int b)]) (by decide) rfl rfl (Nat.le_of_ble_eq_true rfl) rfl ?_
  intro p e R s m args below meth c A Q H locs ls hR hQ hc hr hw hl
  have hx := hc.1
  have hb := hc.2.1
  have hts := hc.2.2.2.1
  have hown := hc.2.2.2.2.1
  refine lv_aload_n hx hb dX6_share_0 rfl (lv_at hl 0 rfl) ?_
  refine lv_iconst (v := 0) hx hb dX6_share_1 (by decide) ?_
  refine g_put (TT := TX6) hc hw inX6_share_X6 tyX6 tyX6_ok nmX6 0 0 1 rfl rfl (by decide) rfl rfl rfl rfl (Nat.le_of_ble_eq_true rfl) dX6_share_2 (fun H locs hw => ?_)
  have hw : g_W D A s [(o, .inr (6, [.int 0, u1, u2, u3, u4, u5, u6, u7, u8, u9, u10, .ref pa, u12, u13, u14, u15, u16, u17, u18, u19, u20, u21, u22, u23, u24, u25, u26, u27, u28, u29, u30, u31, u32, u33, u34, u35])), (pa, .inl (E 0, 29, .inl (pgF S)))] H locs := hw
  refine lv_iload_n hx hb dX6_share_5 rfl (lv_at hl 1 rfl) ?_
  refine g_cS (As := [.int (nI i)]) (n := 1) (rest := []) (wc := []) (w1 := []) (bytes := cX6_noWheel) (maxL := 1) (ret := (some .boolean)) hc hw hl.1 (m_X6_noWheel (l := l) (D := D) (E := E) (T := T) (nI i)) gX6_share_X6_noWheel rfl (by decide +kernel) (by rw [hR]; exact ⟨Nat.le_of_ble_eq_true rfl, Nat.le_of_ble_eq_true rfl⟩) [] (by decide) rfl [] rfl rfl rfl rfl (Nat.le_of_ble_eq_true rfl) dX6_share_6 ⟨Nat.zero_le _, Nat.zero_le _⟩ (fun H locs hw => ?_)
  have hw : g_W D A s [(o, .inr (6, [.int 0, u1, u2, u3, u4, u5, u6, u7, u8, u9, u10, .ref pa, u12, u13, u14, u15, u16, u17, u18, u19, u20, u21, u22, u23, u24, u25, u26, u27, u28, u29, u30, u31, u32, u33, u34, u35])), (pa, .inl (E 0, 29, .inl (pgF S)))] H locs := hw
  refine W.eq (congrArg (fun z => F0 m 9 ls (.int z :: [])) (show (b2i (outB (nI i) 0 3) : Int32) = 0 from (congrArg b2i (out_nf (n := i) (a := 0) (b := 3) (by omega) hi9 (by decide))))) ?_
  refine lv_if_eq (tgt := 14) hx hb dX6_share_9 (by decide) (fun c_9 => ?_) (fun c_9 => absurd c_9 (by decide))
  refine lv_aload_n hx hb dX6_share_14 rfl (lv_at hl 0 rfl) ?_
  refine g_get (TT := TX6) hc hw inX6_share_X6 0 11 2 rfl rfl (by decide) rfl rfl dX6_share_15 ?_
  refine lv_iconst (v := 0) hx hb dX6_share_18 (by decide) ?_
  refine g_ild hc hw 1 0 rfl rfl (by omega) (by decide) dX6_share_19 ?_
  refine W.eq (congrArg (fun z => F0 m 20 ls (.int z :: [])) (show ((pgF S) 0 : Int32) = nI (sD S) from rfl)) ?_
  refine lv_iload_n hx hb dX6_share_20 rfl (lv_at hl 1 rfl) ?_
  refine g_cS (As := [.int (nI (sD S)), .int (nI i)]) (n := 2) (rest := []) (wc := []) (w1 := []) (bytes := cX6_has) (maxL := 2) (ret := (some .boolean)) hc hw hl.1 (m_X6_has (l := l) (D := D) (E := E) (T := T) (sD S) i hd (by omega)) gX6_share_X6_has rfl (by decide +kernel) (by rw [hR]; exact ⟨Nat.le_of_ble_eq_true rfl, Nat.le_of_ble_eq_true rfl⟩) [] (by decide) rfl [] rfl rfl rfl rfl (Nat.le_of_ble_eq_true rfl) dX6_share_21 ⟨Nat.zero_le _, Nat.zero_le _⟩ (fun H locs hw => ?_)
  have hw : g_W D A s [(o, .inr (6, [.int 0, u1, u2, u3, u4, u5, u6, u7, u8, u9, u10, .ref pa, u12, u13, u14, u15, u16, u17, u18, u19, u20, u21, u22, u23, u24, u25, u26, u27, u28, u29, u30, u31, u32, u33, u34, u35])), (pa, .inl (E 0, 29, .inl (pgF S)))] H locs := hw
  refine W.eq (congrArg (fun z => F0 m 24 ls (.int z :: [])) (show (b2i ((sD S).testBit i) : Int32) = 1 from (congrArg b2i hal))) ?_
  refine lv_if_eq (tgt := 30) hx hb dX6_share_24 (by decide) (fun c_24 => absurd c_24 (by decide)) (fun c_24 => ?_)
  refine lv_bipush (v := (-3)) hx hb dX6_share_27 (by decide) ?_
  exact g_iret hQ hc hw hr rfl rfl dX6_share_29

theorem dX6_share_30 : decode cX6_share 30 = .ok (.bipush 15, 2) := by decide +kernel
theorem dX6_share_32 : decode cX6_share 32 = .ok (.aload_n 0, 1) := by decide +kernel
theorem dX6_share_33 : decode cX6_share 33 = .ok (.getfield 25, 3) := by decide +kernel
theorem dX6_share_36 : decode cX6_share 36 = .ok (.iconst 0, 1) := by decide +kernel
theorem dX6_share_37 : decode cX6_share 37 = .ok (.iaload, 1) := by decide +kernel
theorem dX6_share_38 : decode cX6_share 38 = .ok (.iconst (-1), 1) := by decide +kernel
theorem dX6_share_39 : decode cX6_share 39 = .ok (.ixor, 1) := by decide +kernel
theorem dX6_share_40 : decode cX6_share 40 = .ok (.iand, 1) := by decide +kernel
theorem dX6_share_41 : decode cX6_share 41 = .ok (.istore_n 3, 1) := by decide +kernel
theorem dX6_share_42 : decode cX6_share 42 = .ok (.iconst 0, 1) := by decide +kernel
theorem dX6_share_43 : decode cX6_share 43 = .ok (.istore 4, 2) := by decide +kernel
theorem dX6_share_45 : decode cX6_share 45 = .ok (.iload 4, 2) := by decide +kernel
theorem dX6_share_47 : decode cX6_share 47 = .ok (.bipush 16, 2) := by decide +kernel
theorem dX6_share_49 : decode cX6_share 49 = .ok (.if_icmp .ge 43, 3) := by decide +kernel
theorem dX6_share_52 : decode cX6_share 52 = .ok (.aload_n 0, 1) := by decide +kernel
theorem dX6_share_53 : decode cX6_share 53 = .ok (.getfield 78, 3) := by decide +kernel
theorem dX6_share_56 : decode cX6_share 56 = .ok (.iload 4, 2) := by decide +kernel
theorem dX6_share_58 : decode cX6_share 58 = .ok (.iload 4, 2) := by decide +kernel
theorem dX6_share_60 : decode cX6_share 60 = .ok (.iload_n 3, 1) := by decide +kernel
theorem dX6_share_61 : decode cX6_share 61 = .ok (.iconst (-1), 1) := by decide +kernel
theorem dX6_share_62 : decode cX6_share 62 = .ok (.ixor, 1) := by decide +kernel
theorem dX6_share_63 : decode cX6_share 63 = .ok (.iand, 1) := by decide +kernel
theorem dX6_share_64 : decode cX6_share 64 = .ok (.ifCond .ne 20, 3) := by decide +kernel
theorem dX6_share_67 : decode cX6_share 67 = .ok (.bipush 20, 2) := by decide +kernel
theorem dX6_share_69 : decode cX6_share 69 = .ok (.aload_n 0, 1) := by decide +kernel
theorem dX6_share_70 : decode cX6_share 70 = .ok (.bipush 15, 2) := by decide +kernel
theorem dX6_share_72 : decode cX6_share 72 = .ok (.iload 4, 2) := by decide +kernel
theorem dX6_share_74 : decode cX6_share 74 = .ok (.iconst (-1), 1) := by decide +kernel
theorem dX6_share_75 : decode cX6_share 75 = .ok (.ixor, 1) := by decide +kernel
theorem dX6_share_76 : decode cX6_share 76 = .ok (.iand, 1) := by decide +kernel
theorem dX6_share_77 : decode cX6_share 77 = .ok (.invokevirtual 278, 3) := by decide +kernel
theorem dX6_share_80 : decode cX6_share 80 = .ok (.isub, 1) := by decide +kernel
theorem dX6_share_81 : decode cX6_share 81 = .ok (.goto 4, 3) := by decide +kernel
theorem dX6_share_84 : decode cX6_share 84 = .ok (.iconst 0, 1) := by decide +kernel
theorem dX6_share_85 : decode cX6_share 85 = .ok (.iastore, 1) := by decide +kernel
theorem dX6_share_86 : decode cX6_share 86 = .ok (.iinc 4 1, 3) := by decide +kernel
theorem dX6_share_89 : decode cX6_share 89 = .ok (.goto (-44), 3) := by decide +kernel
theorem dX6_share_92 : decode cX6_share 92 = .ok (.iload_n 3, 1) := by decide +kernel
theorem dX6_share_93 : decode cX6_share 93 = .ok (.invokestatic 202, 3) := by decide +kernel
theorem dX6_share_96 : decode cX6_share 96 = .ok (.istore 4, 2) := by decide +kernel
theorem dX6_share_98 : decode cX6_share 98 = .ok (.iconst 0, 1) := by decide +kernel
theorem dX6_share_99 : decode cX6_share 99 = .ok (.istore 5, 2) := by decide +kernel
theorem dX6_share_101 : decode cX6_share 101 = .ok (.iconst 0, 1) := by decide +kernel
theorem dX6_share_102 : decode cX6_share 102 = .ok (.istore 6, 2) := by decide +kernel
theorem dX6_share_104 : decode cX6_share 104 = .ok (.iload 6, 2) := by decide +kernel
theorem dX6_share_106 : decode cX6_share 106 = .ok (.bipush 16, 2) := by decide +kernel
theorem dX6_share_108 : decode cX6_share 108 = .ok (.if_icmp .ge 91, 3) := by decide +kernel
theorem dX6_share_111 : decode cX6_share 111 = .ok (.iload 6, 2) := by decide +kernel
theorem dX6_share_113 : decode cX6_share 113 = .ok (.invokestatic 202, 3) := by decide +kernel
theorem dX6_share_116 : decode cX6_share 116 = .ok (.istore 7, 2) := by decide +kernel
theorem dX6_share_118 : decode cX6_share 118 = .ok (.iload 6, 2) := by decide +kernel
theorem dX6_share_120 : decode cX6_share 120 = .ok (.iload_n 3, 1) := by decide +kernel
theorem dX6_share_121 : decode cX6_share 121 = .ok (.iconst (-1), 1) := by decide +kernel
theorem dX6_share_122 : decode cX6_share 122 = .ok (.ixor, 1) := by decide +kernel
theorem dX6_share_123 : decode cX6_share 123 = .ok (.iand, 1) := by decide +kernel
theorem dX6_share_124 : decode cX6_share 124 = .ok (.ifCond .ne 16, 3) := by decide +kernel
theorem dX6_share_127 : decode cX6_share 127 = .ok (.iload 6, 2) := by decide +kernel
theorem dX6_share_129 : decode cX6_share 129 = .ok (.iload_n 1, 1) := by decide +kernel
theorem dX6_share_130 : decode cX6_share 130 = .ok (.invokestatic 139, 3) := by decide +kernel
theorem dX6_share_133 : decode cX6_share 133 = .ok (.ifCond .ne 7, 3) := by decide +kernel
theorem dX6_share_136 : decode cX6_share 136 = .ok (.iconst 1, 1) := by decide +kernel
theorem dX6_share_137 : decode cX6_share 137 = .ok (.goto 4, 3) := by decide +kernel
theorem dX6_share_140 : decode cX6_share 140 = .ok (.iconst 0, 1) := by decide +kernel
theorem dX6_share_141 : decode cX6_share 141 = .ok (.istore 8, 2) := by decide +kernel
theorem dX6_share_143 : decode cX6_share 143 = .ok (.iload 5, 2) := by decide +kernel
theorem dX6_share_145 : decode cX6_share 145 = .ok (.iload 8, 2) := by decide +kernel
theorem dX6_share_147 : decode cX6_share 147 = .ok (.ifCond .eq 42, 3) := by decide +kernel
theorem dX6_share_150 : decode cX6_share 150 = .ok (.iload 7, 2) := by decide +kernel
theorem dX6_share_152 : decode cX6_share 152 = .ok (.invokestatic 281, 3) := by decide +kernel
theorem dX6_share_155 : decode cX6_share 155 = .ok (.iload 4, 2) := by decide +kernel
theorem dX6_share_157 : decode cX6_share 157 = .ok (.iconst 1, 1) := by decide +kernel
theorem dX6_share_158 : decode cX6_share 158 = .ok (.isub, 1) := by decide +kernel
theorem dX6_share_159 : decode cX6_share 159 = .ok (.iload 7, 2) := by decide +kernel
theorem dX6_share_161 : decode cX6_share 161 = .ok (.isub, 1) := by decide +kernel
theorem dX6_share_162 : decode cX6_share 162 = .ok (.invokestatic 281, 3) := by decide +kernel
theorem dX6_share_165 : decode cX6_share 165 = .ok (.imul, 1) := by decide +kernel
theorem dX6_share_166 : decode cX6_share 166 = .ok (.aload_n 0, 1) := by decide +kernel
theorem dX6_share_167 : decode cX6_share 167 = .ok (.getfield 78, 3) := by decide +kernel
theorem dX6_share_170 : decode cX6_share 170 = .ok (.iload 6, 2) := by decide +kernel
theorem dX6_share_172 : decode cX6_share 172 = .ok (.iconst 1, 1) := by decide +kernel
theorem dX6_share_173 : decode cX6_share 173 = .ok (.iload_n 1, 1) := by decide +kernel
theorem dX6_share_174 : decode cX6_share 174 = .ok (.ishl, 1) := by decide +kernel
theorem dX6_share_175 : decode cX6_share 175 = .ok (.ior, 1) := by decide +kernel
theorem dX6_share_176 : decode cX6_share 176 = .ok (.iaload, 1) := by decide +kernel
theorem dX6_share_177 : decode cX6_share 177 = .ok (.aload_n 0, 1) := by decide +kernel
theorem dX6_share_178 : decode cX6_share 178 = .ok (.getfield 78, 3) := by decide +kernel
theorem dX6_share_181 : decode cX6_share 181 = .ok (.iload 6, 2) := by decide +kernel
theorem dX6_share_183 : decode cX6_share 183 = .ok (.iaload, 1) := by decide +kernel
theorem dX6_share_184 : decode cX6_share 184 = .ok (.isub, 1) := by decide +kernel
theorem dX6_share_185 : decode cX6_share 185 = .ok (.imul, 1) := by decide +kernel
theorem dX6_share_186 : decode cX6_share 186 = .ok (.goto 4, 3) := by decide +kernel
theorem dX6_share_189 : decode cX6_share 189 = .ok (.iconst 0, 1) := by decide +kernel
theorem dX6_share_190 : decode cX6_share 190 = .ok (.iadd, 1) := by decide +kernel
theorem dX6_share_191 : decode cX6_share 191 = .ok (.istore 5, 2) := by decide +kernel
theorem dX6_share_193 : decode cX6_share 193 = .ok (.iinc 6 1, 3) := by decide +kernel
theorem dX6_share_196 : decode cX6_share 196 = .ok (.goto (-92), 3) := by decide +kernel
theorem dX6_share_199 : decode cX6_share 199 = .ok (.iload 5, 2) := by decide +kernel
theorem dX6_share_201 : decode cX6_share 201 = .ok (.iload 4, 2) := by decide +kernel
theorem dX6_share_203 : decode cX6_share 203 = .ok (.invokestatic 281, 3) := by decide +kernel
theorem dX6_share_206 : decode cX6_share 206 = .ok (.iload_n 2, 1) := by decide +kernel
theorem dX6_share_207 : decode cX6_share 207 = .ok (.invokestatic 284, 3) := by decide +kernel
theorem dX6_share_210 : decode cX6_share 210 = .ok (.ireturn, 1) := by decide +kernel
set_option maxRecDepth 20000 in
theorem ggX6_share_X6_ones : GoodIn wsX6_share wsX6_ones := goodIn_r _ [28] rfl (by decide +kernel)
set_option maxRecDepth 20000 in
theorem gX6_share_X6_ones : GoodIn wsX6_share (va_wsS RX6 202 yX6_ones wsX6_ones) := goodIn_app (goodIn_of _ (by decide +kernel)) ggX6_share_X6_ones
set_option maxRecDepth 20000 in
theorem ggX6_share_X6_factorial : GoodIn wsX6_share wsX6_factorial := goodIn_r _ [108] rfl (by decide +kernel)
set_option maxRecDepth 20000 in
theorem gX6_share_X6_factorial : GoodIn wsX6_share (va_wsS RX6 281 yX6_factorial wsX6_factorial) := goodIn_app (goodIn_of _ (by decide +kernel)) ggX6_share_X6_factorial
set_option maxRecDepth 20000 in
theorem ggX6_share_X6_fraction : GoodIn wsX6_share wsX6_fraction := goodIn_r _ [111, 112, 113, 6, 114] rfl (by decide +kernel)
set_option maxRecDepth 20000 in
theorem gX6_share_X6_fraction : GoodIn wsX6_share (va_wsS RX6 284 yX6_fraction wsX6_fraction) := goodIn_app (goodIn_of _ (by decide +kernel)) ggX6_share_X6_fraction
set_option maxRecDepth 20000 in
theorem ggX6_share_X6_badBy : GoodIn wsX6_share wsX6_badBy := goodIn_r _ [18, 19, 20, 21, 22, 6, 23, 2, 24, 25, 26, 27, 28, 29, 30, 31, 32, 33, 34, 35, 36, 37, 38, 39, 40, 41, 42, 43, 44, 45, 46, 47, 48, 49, 50, 51, 52, 53, 54, 55, 56, 57, 58, 59, 60, 61, 62, 63, 64, 65, 66, 67, 68, 69, 12, 13, 14, 70, 71, 72, 73, 74, 75, 76, 77, 78, 79, 80, 81, 82, 83, 84, 85, 86, 87, 88, 89, 90, 91, 92, 93, 94, 95, 96, 97, 98, 99, 100, 101, 102, 103, 104, 105, 115, 116, 117, 118, 119, 120, 121, 122, 123, 124, 125, 126, 127, 128, 129, 130, 131, 132, 133, 134, 135, 136, 137, 138, 139, 140, 141, 142, 143, 144, 145, 146, 147, 148, 149, 150] rfl (by decide +kernel)
set_option maxRecDepth 20000 in
theorem gX6_share_X6_badBy : GoodIn wsX6_share (wsV RX6 278 RX6 yX6_badBy wsX6_badBy) := goodIn_app (goodIn_of _ (by decide +kernel)) ggX6_share_X6_badBy
set_option maxRecDepth 100000 in
set_option maxHeartbeats 4000000 in
theorem m_X6_share {l : Launch} {D : va_G} {E : Nat → ClassId} {T : Nat → Nat} (o : Nat) (xa : Nat) (fa : Nat) (wa : Nat) (la : Nat) (ta : Nat) (ma : Nat) (sa : Nat) (nw : Nat) (nf : Nat) (pa : Nat) (va : Nat) (ua : Nat) (ya : Nat) (B : Nat) (u0 : Value) (u1 : Value) (u2 : Value) (u7 : Value) (u8 : Value) (u9 : Value) (u10 : Value) (u15 : Value) (u16 : Value) (u17 : Value) (u18 : Value) (u19 : Value) (u20 : Value) (u21 : Value) (u22 : Value) (u23 : Value) (u24 : Value) (u25 : Value) (u26 : Value) (fl : Nat → Int32) (S : TS) (U : TS) (K : RJ) (ww : Nat) (i : Nat) (g : Nat → Int32) (up : Bool) (hok : OkS B S) (hB : B + 20 < 2 ^ 31) (hnw : nw ≤ 6) (hnf : nf ≤ 6) (hi9 : i ≤ 3) (hal : (sD S).testBit i = false) : g_ME l D E T yX6_share wsX6_share 9 215 [.ref o, .int (nI i), .int (b2i up)] [(o, .inr (6, [u0, u1, u2, .ref xa, .int (nI nw), .int (nI nf), .ref fa, u7, u8, u9, u10, .ref pa, .ref va, .ref ua, .ref ya, u15, u16, u17, u18, u19, u20, u21, u22, u23, u24, u25, u26, .ref wa, .ref la, .ref ta, .int (rS K), .int (rN K), .float (rH K), .ref ma, .ref ww, .ref sa])), (xa, .inl (E 0, 12, .inl (g_tv 0))), (fa, .inl (E 0, 18, .inl fl)), (wa, .inl (E 0, 3, .inl (rW K))), (la, .inl (E 1, 4, .inr (.inr (.inl (rP K))))), (ta, .inl (E 1, 4, .inr (.inr (.inl (rT K))))), (ma, .inl (E 1, 3, .inr (.inr (.inl (rM K))))), (sa, .inl (E 0, 9, .inl (g_tv 1))), (pa, .inl (E 0, 29, .inl (pgF S))), (va, .inl (E 1, 5, .inr (.inr (.inl (fl5 S))))), (ua, .inl (E 0, 29, .inl (pgF U))), (ya, .inl (E 1, 5, .inr (.inr (.inl (fl5 U))))), (ww, .inl (E 0, 16, .inl g))] (fun (y9 : RJ × TS) => [(o, .inr (6, [.int 0, u1, u2, .ref xa, .int (nI nw), .int (nI nf), .ref fa, u7, u8, u9, u10, .ref pa, .ref va, .ref ua, .ref ya, u15, u16, u17, u18, u19, u20, u21, u22, u23, u24, u25, u26, .ref wa, .ref la, .ref ta, .int (rS y9.1), .int (rN y9.1), .float (rH y9.1), .ref ma, .ref ww, .ref sa])), (xa, .inl (E 0, 12, .inl (g_tv 0))), (fa, .inl (E 0, 18, .inl fl)), (wa, .inl (E 0, 3, .inl (rW y9.1))), (la, .inl (E 1, 4, .inr (.inr (.inl (rP y9.1))))), (ta, .inl (E 1, 4, .inr (.inr (.inl (rT y9.1))))), (ma, .inl (E 1, 3, .inr (.inr (.inl (rM y9.1))))), (sa, .inl (E 0, 9, .inl (g_tv 1))), (pa, .inl (E 0, 29, .inl (pgF S))), (va, .inl (E 1, 5, .inr (.inr (.inl (fl5 S))))), (ua, .inl (E 0, 29, .inl (pgF y9.2))), (ya, .inl (E 1, 5, .inr (.inr (.inl (fl5 y9.2))))), (ww, .inl (E 0, 16, .inl (wgR nw nf fl (x3F 0 0 0) S)))]) (some (.int (frF (shN (15 - sD S) (pcn (15 - sD S)) i (wgV nw nf fl (x3F 0 0 0) S) 16) (fcN (pcn (15 - sD S))) ((shN (15 - sD S) (pcn (15 - sD S)) i (wgV nw nf fl (x3F 0 0 0) S) 16).toInt.natAbs) up))) := by
  refine g_ME.of (cc := cX6_share) (nL := 9) (ret := (some .int)) (own := RX6) (lv := [(0, .ref o), (1, .int (nI i)), (2, .int (b2i up))]) (by decide) rfl rfl (Nat.le_of_ble_eq_true rfl) rfl ?_
  intro p e R s m args below meth c A Q H locs ls hR hQ hc hr hw hl
  have hx := hc.1
  have hb := hc.2.1
  have hts := hc.2.2.2.1
  have hown := hc.2.2.2.2.1
  refine lv_aload_n hx hb dX6_share_0 rfl (lv_at hl 0 rfl) ?_
  refine lv_iconst (v := 0) hx hb dX6_share_1 (by decide) ?_
  refine g_put (TT := TX6) hc hw inX6_share_X6 tyX6 tyX6_ok nmX6 0 0 1 rfl rfl (by decide) rfl rfl rfl rfl (Nat.le_of_ble_eq_true rfl) dX6_share_2 (fun H locs hw => ?_)
  have hw : g_W D A s [(o, .inr (6, [.int 0, u1, u2, .ref xa, .int (nI nw), .int (nI nf), .ref fa, u7, u8, u9, u10, .ref pa, .ref va, .ref ua, .ref ya, u15, u16, u17, u18, u19, u20, u21, u22, u23, u24, u25, u26, .ref wa, .ref la, .ref ta, .int (rS K), .int (rN K), .float (rH K), .ref ma, .ref ww, .ref sa])), (xa, .inl (E 0, 12, .inl (g_tv 0))), (fa, .inl (E 0, 18, .inl fl)), (wa, .inl (E 0, 3, .inl (rW K))), (la, .inl (E 1, 4, .inr (.inr (.inl (rP K))))), (ta, .inl (E 1, 4, .inr (.inr (.inl (rT K))))), (ma, .inl (E 1, 3, .inr (.inr (.inl (rM K))))), (sa, .inl (E 0, 9, .inl (g_tv 1))), (pa, .inl (E 0, 29, .inl (pgF S))), (va, .inl (E 1, 5, .inr (.inr (.inl (fl5 S))))), (ua, .inl (E 0, 29, .inl (pgF U))), (ya, .inl (E 1, 5, .inr (.inr (.inl (fl5 U))))), (ww, .inl (E 0, 16, .inl g))] H locs := hw
  refine lv_iload_n hx hb dX6_share_5 rfl (lv_at hl 1 rfl) ?_
  refine g_cS (As := [.int (nI i)]) (n := 1) (rest := []) (wc := []) (w1 := []) (bytes := cX6_noWheel) (maxL := 1) (ret := (some .boolean)) hc hw hl.1 (m_X6_noWheel (l := l) (D := D) (E := E) (T := T) (nI i)) gX6_share_X6_noWheel rfl (by decide +kernel) (by rw [hR]; exact ⟨Nat.le_of_ble_eq_true rfl, Nat.le_of_ble_eq_true rfl⟩) [] (by decide) rfl [] rfl rfl rfl rfl (Nat.le_of_ble_eq_true rfl) dX6_share_6 ⟨Nat.zero_le _, Nat.zero_le _⟩ (fun H locs hw => ?_)
  have hw : g_W D A s [(o, .inr (6, [.int 0, u1, u2, .ref xa, .int (nI nw), .int (nI nf), .ref fa, u7, u8, u9, u10, .ref pa, .ref va, .ref ua, .ref ya, u15, u16, u17, u18, u19, u20, u21, u22, u23, u24, u25, u26, .ref wa, .ref la, .ref ta, .int (rS K), .int (rN K), .float (rH K), .ref ma, .ref ww, .ref sa])), (xa, .inl (E 0, 12, .inl (g_tv 0))), (fa, .inl (E 0, 18, .inl fl)), (wa, .inl (E 0, 3, .inl (rW K))), (la, .inl (E 1, 4, .inr (.inr (.inl (rP K))))), (ta, .inl (E 1, 4, .inr (.inr (.inl (rT K))))), (ma, .inl (E 1, 3, .inr (.inr (.inl (rM K))))), (sa, .inl (E 0, 9, .inl (g_tv 1))), (pa, .inl (E 0, 29, .inl (pgF S))), (va, .inl (E 1, 5, .inr (.inr (.inl (fl5 S))))), (ua, .inl (E 0, 29, .inl (pgF U))), (ya, .inl (E 1, 5, .inr (.inr (.inl (fl5 U))))), (ww, .inl (E 0, 16, .inl g))] H locs := hw
  refine W.eq (congrArg (fun z => F0 m 9 ls (.int z :: [])) (show (b2i (outB (nI i) 0 3) : Int32) = 0 from (congrArg b2i (out_nf (n := i) (a := 0) (b := 3) (by omega) hi9 (by decide))))) ?_
  refine lv_if_eq (tgt := 14) hx hb dX6_share_9 (by decide) (fun c_9 => ?_) (fun c_9 => absurd c_9 (by decide))
  refine lv_aload_n hx hb dX6_share_14 rfl (lv_at hl 0 rfl) ?_
  refine g_get (TT := TX6) hc hw inX6_share_X6 0 11 2 rfl rfl (by decide) rfl rfl dX6_share_15 ?_
  refine lv_iconst (v := 0) hx hb dX6_share_18 (by decide) ?_
  refine g_ild hc hw 8 0 rfl rfl (by omega) (by decide) dX6_share_19 ?_
  refine W.eq (congrArg (fun z => F0 m 20 ls (.int z :: [])) (show ((pgF S) 0 : Int32) = nI (sD S) from rfl)) ?_
  refine lv_iload_n hx hb dX6_share_20 rfl (lv_at hl 1 rfl) ?_
  refine g_cS (As := [.int (nI (sD S)), .int (nI i)]) (n := 2) (rest := []) (wc := []) (w1 := []) (bytes := cX6_has) (maxL := 2) (ret := (some .boolean)) hc hw hl.1 (m_X6_has (l := l) (D := D) (E := E) (T := T) (sD S) i hok.d (by omega)) gX6_share_X6_has rfl (by decide +kernel) (by rw [hR]; exact ⟨Nat.le_of_ble_eq_true rfl, Nat.le_of_ble_eq_true rfl⟩) [] (by decide) rfl [] rfl rfl rfl rfl (Nat.le_of_ble_eq_true rfl) dX6_share_21 ⟨Nat.zero_le _, Nat.zero_le _⟩ (fun H locs hw => ?_)
  have hw : g_W D A s [(o, .inr (6, [.int 0, u1, u2, .ref xa, .int (nI nw), .int (nI nf), .ref fa, u7, u8, u9, u10, .ref pa, .ref va, .ref ua, .ref ya, u15, u16, u17, u18, u19, u20, u21, u22, u23, u24, u25, u26, .ref wa, .ref la, .ref ta, .int (rS K), .int (rN K), .float (rH K), .ref ma, .ref ww, .ref sa])), (xa, .inl (E 0, 12, .inl (g_tv 0))), (fa, .inl (E 0, 18, .inl fl)), (wa, .inl (E 0, 3, .inl (rW K))), (la, .inl (E 1, 4, .inr (.inr (.inl (rP K))))), (ta, .inl (E 1, 4, .inr (.inr (.inl (rT K))))), (ma, .inl (E 1, 3, .inr (.inr (.inl (rM K))))), (sa, .inl (E 0, 9, .inl (g_tv 1))), (pa, .inl (E 0, 29, .inl (pgF S))), (va, .inl (E 1, 5, .inr (.inr (.inl (fl5 S))))), (ua, .inl (E 0, 29, .inl (pgF U))), (ya, .inl (E 1, 5, .inr (.inr (.inl (fl5 U))))), (ww, .inl (E 0, 16, .inl g))] H locs := hw
  refine W.eq (congrArg (fun z => F0 m 24 ls (.int z :: [])) (show (b2i ((sD S).testBit i) : Int32) = 0 from (congrArg b2i hal))) ?_
  refine lv_if_eq (tgt := 30) hx hb dX6_share_24 (by decide) (fun c_24 => ?_) (fun c_24 => absurd c_24 (by decide))
  refine lv_bipush (v := 15) hx hb dX6_share_30 (by decide) ?_
  refine lv_aload_n hx hb dX6_share_32 rfl (lv_at hl 0 rfl) ?_
  refine g_get (TT := TX6) hc hw inX6_share_X6 0 11 2 rfl rfl (by decide) rfl rfl dX6_share_33 ?_
  refine lv_iconst (v := 0) hx hb dX6_share_36 (by decide) ?_
  refine g_ild hc hw 8 0 rfl rfl (by omega) (by decide) dX6_share_37 ?_
  refine W.eq (congrArg (fun z => F0 m 38 ls (.int z :: [.int 15])) (show ((pgF S) 0 : Int32) = nI (sD S) from rfl)) ?_
  refine lv_iconst (v := (-1)) hx hb dX6_share_38 (by decide) ?_
  refine lv_ixor hx hb dX6_share_39 ?_
  refine lv_iand hx hb dX6_share_40 ?_
  refine W.eq (congrArg (fun z => F0 m 41 ls (.int z :: [])) (show (15 &&& ((nI (sD S)) ^^^ (-1)) : Int32) = nI (15 - sD S) from (not15 _ hok.d))) ?_
  refine lv_istore_n (lv' := [(3, .int (nI (15 - sD S))), (0, .ref o), (1, .int (nI i)), (2, .int (b2i up))]) hx hb dX6_share_41 rfl hl (by decide) rfl (fun ls hl => ?_)
  refine lv_iconst (v := 0) hx hb dX6_share_42 (by decide) ?_
  refine lv_istore (lv' := [(4, .int 0), (3, .int (nI (15 - sD S))), (0, .ref o), (1, .int (nI i)), (2, .int (b2i up))]) hx hb dX6_share_43 hl (by decide) rfl (fun ls hl => ?_)
  have J45 : ∀ (k9 : Nat) (a : Nat), a + k9 = 16 → ∀ (K1 : RJ) (U1 : TS), ∀ (H : Heap) (locs : List Loc) (ls : Array Slot), g_W D A s [(o, .inr (6, [.int 0, u1, u2, .ref xa, .int (nI nw), .int (nI nf), .ref fa, u7, u8, u9, u10, .ref pa, .ref va, .ref ua, .ref ya, u15, u16, u17, u18, u19, u20, u21, u22, u23, u24, u25, u26, .ref wa, .ref la, .ref ta, .int (rS K1), .int (rN K1), .float (rH K1), .ref ma, .ref ww, .ref sa])), (xa, .inl (E 0, 12, .inl (g_tv 0))), (fa, .inl (E 0, 18, .inl fl)), (wa, .inl (E 0, 3, .inl (rW K1))), (la, .inl (E 1, 4, .inr (.inr (.inl (rP K1))))), (ta, .inl (E 1, 4, .inr (.inr (.inl (rT K1))))), (ma, .inl (E 1, 3, .inr (.inr (.inl (rM K1))))), (sa, .inl (E 0, 9, .inl (g_tv 1))), (pa, .inl (E 0, 29, .inl (pgF S))), (va, .inl (E 1, 5, .inr (.inr (.inl (fl5 S))))), (ua, .inl (E 0, 29, .inl (pgF U1))), (ya, .inl (E 1, 5, .inr (.inr (.inl (fl5 U1))))), (ww, .inl (E 0, 16, .inl (cpI (wgR nw nf fl (x3F 0 0 0) S) g a)))] H locs → lv_has ls 9 [(0, .ref o), (1, .int (nI i)), (2, .int (b2i up)), (3, .int (nI (15 - sD S))), (4, .int (nI a))] → W p l e R s m args below meth c H locs 0 0 Q (F0 m 45 ls []) := by
    intro k9
    induction k9 with
    | zero =>
      intro a h9 K1 U1  H locs ls hw hl
      have h9 : a = 16 := h9
      subst h9
      refine lv_iload hx hb dX6_share_45 (lv_at hl 4 rfl) ?_
      refine lv_bipush (v := 16) hx hb dX6_share_47 (by decide) ?_
      refine lv_icmp_ge (tgt := 92) hx hb dX6_share_49 (by decide) (fun c_49 => ?_) (fun c_49 => absurd (by first | exact Int32.le_refl _ | decide) c_49)
      have hw := g_reI (q0 := 12) (g := wgR nw nf fl (x3F 0 0 0) S) hw rfl (cpI_n _ g 16)
      have hw : g_W D A s [(o, .inr (6, [.int 0, u1, u2, .ref xa, .int (nI nw), .int (nI nf), .ref fa, u7, u8, u9, u10, .ref pa, .ref va, .ref ua, .ref ya, u15, u16, u17, u18, u19, u20, u21, u22, u23, u24, u25, u26, .ref wa, .ref la, .ref ta, .int (rS K1), .int (rN K1), .float (rH K1), .ref ma, .ref ww, .ref sa])), (xa, .inl (E 0, 12, .inl (g_tv 0))), (fa, .inl (E 0, 18, .inl fl)), (wa, .inl (E 0, 3, .inl (rW K1))), (la, .inl (E 1, 4, .inr (.inr (.inl (rP K1))))), (ta, .inl (E 1, 4, .inr (.inr (.inl (rT K1))))), (ma, .inl (E 1, 3, .inr (.inr (.inl (rM K1))))), (sa, .inl (E 0, 9, .inl (g_tv 1))), (pa, .inl (E 0, 29, .inl (pgF S))), (va, .inl (E 1, 5, .inr (.inr (.inl (fl5 S))))), (ua, .inl (E 0, 29, .inl (pgF U1))), (ya, .inl (E 1, 5, .inr (.inr (.inl (fl5 U1))))), (ww, .inl (E 0, 16, .inl (wgR nw nf fl (x3F 0 0 0) S)))] H locs := hw
      refine lv_iload_n hx hb dX6_share_92 rfl (lv_at hl 3 rfl) ?_
      refine g_cS (As := [.int (nI (15 - sD S))]) (n := 1) (rest := []) (wc := []) (w1 := []) (bytes := cX6_ones) (maxL := 3) (ret := (some .int)) hc hw hl.1 (m_X6_ones (l := l) (D := D) (E := E) (T := T) (15 - sD S) (by omega)) gX6_share_X6_ones rfl (by decide +kernel) (by rw [hR]; exact ⟨Nat.le_of_ble_eq_true rfl, Nat.le_of_ble_eq_true rfl⟩) [] (by decide) rfl [] rfl rfl rfl rfl (Nat.le_of_ble_eq_true rfl) dX6_share_93 ⟨Nat.zero_le _, Nat.zero_le _⟩ (fun H locs hw => ?_)
      have hw : g_W D A s [(o, .inr (6, [.int 0, u1, u2, .ref xa, .int (nI nw), .int (nI nf), .ref fa, u7, u8, u9, u10, .ref pa, .ref va, .ref ua, .ref ya, u15, u16, u17, u18, u19, u20, u21, u22, u23, u24, u25, u26, .ref wa, .ref la, .ref ta, .int (rS K1), .int (rN K1), .float (rH K1), .ref ma, .ref ww, .ref sa])), (xa, .inl (E 0, 12, .inl (g_tv 0))), (fa, .inl (E 0, 18, .inl fl)), (wa, .inl (E 0, 3, .inl (rW K1))), (la, .inl (E 1, 4, .inr (.inr (.inl (rP K1))))), (ta, .inl (E 1, 4, .inr (.inr (.inl (rT K1))))), (ma, .inl (E 1, 3, .inr (.inr (.inl (rM K1))))), (sa, .inl (E 0, 9, .inl (g_tv 1))), (pa, .inl (E 0, 29, .inl (pgF S))), (va, .inl (E 1, 5, .inr (.inr (.inl (fl5 S))))), (ua, .inl (E 0, 29, .inl (pgF U1))), (ya, .inl (E 1, 5, .inr (.inr (.inl (fl5 U1))))), (ww, .inl (E 0, 16, .inl (wgR nw nf fl (x3F 0 0 0) S)))] H locs := hw
      refine lv_istore (lv' := [(4, .int (nI (pcn (15 - sD S)))), (0, .ref o), (1, .int (nI i)), (2, .int (b2i up)), (3, .int (nI (15 - sD S)))]) hx hb dX6_share_96 hl (by decide) rfl (fun ls hl => ?_)
      refine lv_iconst (v := 0) hx hb dX6_share_98 (by decide) ?_
      refine lv_istore (lv' := [(5, .int 0), (4, .int (nI (pcn (15 - sD S)))), (0, .ref o), (1, .int (nI i)), (2, .int (b2i up)), (3, .int (nI (15 - sD S)))]) hx hb dX6_share_99 hl (by decide) rfl (fun ls hl => ?_)
      refine lv_iconst (v := 0) hx hb dX6_share_101 (by decide) ?_
      refine lv_istore (lv' := [(6, .int 0), (5, .int 0), (4, .int (nI (pcn (15 - sD S)))), (0, .ref o), (1, .int (nI i)), (2, .int (b2i up)), (3, .int (nI (15 - sD S)))]) hx hb dX6_share_102 hl (by decide) rfl (fun ls hl => ?_)
      have J104 : ∀ (k9 : Nat) (a : Nat), a + k9 = 16 → ∀ (H : Heap) (locs : List Loc) (ls : Array Slot), g_W D A s [(o, .inr (6, [.int 0, u1, u2, .ref xa, .int (nI nw), .int (nI nf), .ref fa, u7, u8, u9, u10, .ref pa, .ref va, .ref ua, .ref ya, u15, u16, u17, u18, u19, u20, u21, u22, u23, u24, u25, u26, .ref wa, .ref la, .ref ta, .int (rS K1), .int (rN K1), .float (rH K1), .ref ma, .ref ww, .ref sa])), (xa, .inl (E 0, 12, .inl (g_tv 0))), (fa, .inl (E 0, 18, .inl fl)), (wa, .inl (E 0, 3, .inl (rW K1))), (la, .inl (E 1, 4, .inr (.inr (.inl (rP K1))))), (ta, .inl (E 1, 4, .inr (.inr (.inl (rT K1))))), (ma, .inl (E 1, 3, .inr (.inr (.inl (rM K1))))), (sa, .inl (E 0, 9, .inl (g_tv 1))), (pa, .inl (E 0, 29, .inl (pgF S))), (va, .inl (E 1, 5, .inr (.inr (.inl (fl5 S))))), (ua, .inl (E 0, 29, .inl (pgF U1))), (ya, .inl (E 1, 5, .inr (.inr (.inl (fl5 U1))))), (ww, .inl (E 0, 16, .inl (wgR nw nf fl (x3F 0 0 0) S)))] H locs → lv_has ls 9 [(0, .ref o), (1, .int (nI i)), (2, .int (b2i up)), (3, .int (nI (15 - sD S))), (4, .int (nI (pcn (15 - sD S)))), (5, .int (shN (15 - sD S) (pcn (15 - sD S)) i (wgV nw nf fl (x3F 0 0 0) S) a)), (6, .int (nI a))] → W p l e R s m args below meth c H locs 0 0 Q (F0 m 104 ls []) := by
        intro k9
        induction k9 with
        | zero =>
          intro a h9   H locs ls hw hl
          have h9 : a = 16 := h9
          subst h9
          refine lv_iload hx hb dX6_share_104 (lv_at hl 6 rfl) ?_
          refine lv_bipush (v := 16) hx hb dX6_share_106 (by decide) ?_
          refine lv_icmp_ge (tgt := 199) hx hb dX6_share_108 (by decide) (fun c_108 => ?_) (fun c_108 => absurd (by first | exact Int32.le_refl _ | decide) c_108)
          refine lv_iload hx hb dX6_share_199 (lv_at hl 5 rfl) ?_
          refine lv_iload hx hb dX6_share_201 (lv_at hl 4 rfl) ?_
          refine g_cS (As := [.int (nI (pcn (15 - sD S)))]) (n := 1) (rest := [.int (shN (15 - sD S) (pcn (15 - sD S)) i (wgV nw nf fl (x3F 0 0 0) S) 16)]) (wc := []) (w1 := []) (bytes := cX6_factorial) (maxL := 3) (ret := (some .int)) hc hw hl.1 (m_X6_factorial (l := l) (D := D) (E := E) (T := T) (pcn (15 - sD S)) (by have := pcn_lt ((15 - sD S)) (by omega); omega)) gX6_share_X6_factorial rfl (by decide +kernel) (by rw [hR]; exact ⟨Nat.le_of_ble_eq_true rfl, Nat.le_of_ble_eq_true rfl⟩) [] (by decide) rfl [] rfl rfl rfl rfl (Nat.le_of_ble_eq_true rfl) dX6_share_203 ⟨Nat.zero_le _, Nat.zero_le _⟩ (fun H locs hw => ?_)
          have hw : g_W D A s [(o, .inr (6, [.int 0, u1, u2, .ref xa, .int (nI nw), .int (nI nf), .ref fa, u7, u8, u9, u10, .ref pa, .ref va, .ref ua, .ref ya, u15, u16, u17, u18, u19, u20, u21, u22, u23, u24, u25, u26, .ref wa, .ref la, .ref ta, .int (rS K1), .int (rN K1), .float (rH K1), .ref ma, .ref ww, .ref sa])), (xa, .inl (E 0, 12, .inl (g_tv 0))), (fa, .inl (E 0, 18, .inl fl)), (wa, .inl (E 0, 3, .inl (rW K1))), (la, .inl (E 1, 4, .inr (.inr (.inl (rP K1))))), (ta, .inl (E 1, 4, .inr (.inr (.inl (rT K1))))), (ma, .inl (E 1, 3, .inr (.inr (.inl (rM K1))))), (sa, .inl (E 0, 9, .inl (g_tv 1))), (pa, .inl (E 0, 29, .inl (pgF S))), (va, .inl (E 1, 5, .inr (.inr (.inl (fl5 S))))), (ua, .inl (E 0, 29, .inl (pgF U1))), (ya, .inl (E 1, 5, .inr (.inr (.inl (fl5 U1))))), (ww, .inl (E 0, 16, .inl (wgR nw nf fl (x3F 0 0 0) S)))] H locs := hw
          refine W.eq (congrArg (fun z => F0 m 206 ls (.int z :: [.int (shN (15 - sD S) (pcn (15 - sD S)) i (wgV nw nf fl (x3F 0 0 0) S) 16)])) (show (facF (pcn (15 - sD S)) : Int32) = nI (fcN (pcn (15 - sD S))) from (fac_n _))) ?_
          refine lv_iload_n hx hb dX6_share_206 rfl (lv_at hl 2 rfl) ?_
          refine g_cS (As := [.int (shN (15 - sD S) (pcn (15 - sD S)) i (wgV nw nf fl (x3F 0 0 0) S) 16), .int (nI (fcN (pcn (15 - sD S)))), .int (b2i up)]) (n := 3) (rest := []) (wc := []) (w1 := []) (bytes := cX6_fraction) (maxL := 4) (ret := (some .int)) hc hw hl.1 (m_X6_fraction (l := l) (D := D) (E := E) (T := T) (shN (15 - sD S) (pcn (15 - sD S)) i (wgV nw nf fl (x3F 0 0 0) S) 16) (fcN (pcn (15 - sD S))) ((shN (15 - sD S) (pcn (15 - sD S)) i (wgV nw nf fl (x3F 0 0 0) S) 16).toInt.natAbs) up ((sh_abs hok nw nf fl (x3F 0 0 0) (pcn_4 _) i hi9).1) ((sh_abs hok nw nf fl (x3F 0 0 0) (pcn_4 _) i hi9).2) (fcN_pos _) (Nat.lt_of_le_of_lt (fcN_le _ (pcn_4 _)) (by decide))) gX6_share_X6_fraction rfl (by decide +kernel) (by rw [hR]; exact ⟨Nat.le_of_ble_eq_true rfl, Nat.le_of_ble_eq_true rfl⟩) [] (by decide) rfl [] rfl rfl rfl rfl (Nat.le_of_ble_eq_true rfl) dX6_share_207 ⟨Nat.zero_le _, Nat.zero_le _⟩ (fun H locs hw => ?_)
          have hw : g_W D A s [(o, .inr (6, [.int 0, u1, u2, .ref xa, .int (nI nw), .int (nI nf), .ref fa, u7, u8, u9, u10, .ref pa, .ref va, .ref ua, .ref ya, u15, u16, u17, u18, u19, u20, u21, u22, u23, u24, u25, u26, .ref wa, .ref la, .ref ta, .int (rS K1), .int (rN K1), .float (rH K1), .ref ma, .ref ww, .ref sa])), (xa, .inl (E 0, 12, .inl (g_tv 0))), (fa, .inl (E 0, 18, .inl fl)), (wa, .inl (E 0, 3, .inl (rW K1))), (la, .inl (E 1, 4, .inr (.inr (.inl (rP K1))))), (ta, .inl (E 1, 4, .inr (.inr (.inl (rT K1))))), (ma, .inl (E 1, 3, .inr (.inr (.inl (rM K1))))), (sa, .inl (E 0, 9, .inl (g_tv 1))), (pa, .inl (E 0, 29, .inl (pgF S))), (va, .inl (E 1, 5, .inr (.inr (.inl (fl5 S))))), (ua, .inl (E 0, 29, .inl (pgF U1))), (ya, .inl (E 1, 5, .inr (.inr (.inl (fl5 U1))))), (ww, .inl (E 0, 16, .inl (wgR nw nf fl (x3F 0 0 0) S)))] H locs := hw
          exact g_iretE (K1, U1) hQ hc hw hr rfl rfl dX6_share_210
        | succ k9 ih =>
          intro a h9   H locs ls hw hl
          have h9b : a < 16 := by omega
          refine lv_iload hx hb dX6_share_104 (lv_at hl 6 rfl) ?_
          refine lv_bipush (v := 16) hx hb dX6_share_106 (by decide) ?_
          refine lv_icmp_ge (tgt := 199) hx hb dX6_share_108 (by decide) (fun c_108 => absurd c_108 (nI_ge h9b (by decide))) (fun c_108 => ?_)
          refine lv_iload hx hb dX6_share_111 (lv_at hl 6 rfl) ?_
          refine g_cS (As := [.int (nI a)]) (n := 1) (rest := []) (wc := []) (w1 := []) (bytes := cX6_ones) (maxL := 3) (ret := (some .int)) hc hw hl.1 (m_X6_ones (l := l) (D := D) (E := E) (T := T) a (by omega)) gX6_share_X6_ones rfl (by decide +kernel) (by rw [hR]; exact ⟨Nat.le_of_ble_eq_true rfl, Nat.le_of_ble_eq_true rfl⟩) [] (by decide) rfl [] rfl rfl rfl rfl (Nat.le_of_ble_eq_true rfl) dX6_share_113 ⟨Nat.zero_le _, Nat.zero_le _⟩ (fun H locs hw => ?_)
          have hw : g_W D A s [(o, .inr (6, [.int 0, u1, u2, .ref xa, .int (nI nw), .int (nI nf), .ref fa, u7, u8, u9, u10, .ref pa, .ref va, .ref ua, .ref ya, u15, u16, u17, u18, u19, u20, u21, u22, u23, u24, u25, u26, .ref wa, .ref la, .ref ta, .int (rS K1), .int (rN K1), .float (rH K1), .ref ma, .ref ww, .ref sa])), (xa, .inl (E 0, 12, .inl (g_tv 0))), (fa, .inl (E 0, 18, .inl fl)), (wa, .inl (E 0, 3, .inl (rW K1))), (la, .inl (E 1, 4, .inr (.inr (.inl (rP K1))))), (ta, .inl (E 1, 4, .inr (.inr (.inl (rT K1))))), (ma, .inl (E 1, 3, .inr (.inr (.inl (rM K1))))), (sa, .inl (E 0, 9, .inl (g_tv 1))), (pa, .inl (E 0, 29, .inl (pgF S))), (va, .inl (E 1, 5, .inr (.inr (.inl (fl5 S))))), (ua, .inl (E 0, 29, .inl (pgF U1))), (ya, .inl (E 1, 5, .inr (.inr (.inl (fl5 U1))))), (ww, .inl (E 0, 16, .inl (wgR nw nf fl (x3F 0 0 0) S)))] H locs := hw
          refine lv_istore (lv' := [(7, .int (nI (pcn a))), (0, .ref o), (1, .int (nI i)), (2, .int (b2i up)), (3, .int (nI (15 - sD S))), (4, .int (nI (pcn (15 - sD S)))), (5, .int (shN (15 - sD S) (pcn (15 - sD S)) i (wgV nw nf fl (x3F 0 0 0) S) a)), (6, .int (nI a))]) hx hb dX6_share_116 hl (by decide) rfl (fun ls hl => ?_)
          refine lv_iload hx hb dX6_share_118 (lv_at hl 7 rfl) ?_
          refine lv_iload_n hx hb dX6_share_120 rfl (lv_at hl 4 rfl) ?_
          refine lv_iconst (v := (-1)) hx hb dX6_share_121 (by decide) ?_
          refine lv_ixor hx hb dX6_share_122 ?_
          refine lv_iand hx hb dX6_share_123 ?_
          refine lv_if_ne (tgt := 140) hx hb dX6_share_124 (by decide) (fun c_124 => ?_) (fun c_124 => ?_)
          · skip
            have h124 : ¬ a &&& (15 - sD S) = a := fun q => c_124 ((sb16 a (by omega) (15 - sD S) (by omega)).mpr q)
            refine lv_iconst (v := 0) hx hb dX6_share_140 (by decide) ?_
            refine lv_istore (lv' := [(8, .int 0), (7, .int (nI (pcn a))), (0, .ref o), (1, .int (nI i)), (2, .int (b2i up)), (3, .int (nI (15 - sD S))), (4, .int (nI (pcn (15 - sD S)))), (5, .int (shN (15 - sD S) (pcn (15 - sD S)) i (wgV nw nf fl (x3F 0 0 0) S) a)), (6, .int (nI a))]) hx hb dX6_share_141 hl (by decide) rfl (fun ls hl => ?_)
            refine lv_iload hx hb dX6_share_143 (lv_at hl 7 rfl) ?_
            refine lv_iload hx hb dX6_share_145 (lv_at hl 0 rfl) ?_
            refine lv_if_eq (tgt := 189) hx hb dX6_share_147 (by decide) (fun c_147 => ?_) (fun c_147 => absurd c_147 (by decide))
            refine lv_iconst (v := 0) hx hb dX6_share_189 (by decide) ?_
            refine lv_iadd hx hb dX6_share_190 ?_
            refine lv_istore (lv' := [(5, .int ((shN (15 - sD S) (pcn (15 - sD S)) i (wgV nw nf fl (x3F 0 0 0) S) a) + 0)), (8, .int 0), (7, .int (nI (pcn a))), (0, .ref o), (1, .int (nI i)), (2, .int (b2i up)), (3, .int (nI (15 - sD S))), (4, .int (nI (pcn (15 - sD S)))), (6, .int (nI a))]) hx hb dX6_share_191 hl (by decide) rfl (fun ls hl => ?_)
            refine lv_iinc (v := nI (a + 1)) (lv' := [(6, .int (nI (a + 1))), (5, .int ((shN (15 - sD S) (pcn (15 - sD S)) i (wgV nw nf fl (x3F 0 0 0) S) a) + 0)), (8, .int 0), (7, .int (nI (pcn a))), (0, .ref o), (1, .int (nI i)), (2, .int (b2i up)), (3, .int (nI (15 - sD S))), (4, .int (nI (pcn (15 - sD S))))]) hx hb dX6_share_193 hl (k := 8) rfl (n_inc1 rfl) (by decide) rfl (fun ls hl => ?_)
            refine lv_goto (tgt := 104) hx hb dX6_share_196 (by decide) ?_
            have hl := lv_conv hl 1 rfl (v' := (.int (shN (15 - sD S) (pcn (15 - sD S)) i (wgV nw nf fl (x3F 0 0 0) S) (a + 1)))) (by exact congrArg Value.int ((Int32.add_zero _).trans (if_neg (fun q => h124 q.1)).symm))
            have hl : lv_has ls 9 [(6, .int (nI (a + 1))), (5, .int (shN (15 - sD S) (pcn (15 - sD S)) i (wgV nw nf fl (x3F 0 0 0) S) (a + 1))), (8, .int 0), (7, .int (nI (pcn a))), (0, .ref o), (1, .int (nI i)), (2, .int (b2i up)), (3, .int (nI (15 - sD S))), (4, .int (nI (pcn (15 - sD S))))] := hl
            exact ih (a + 1) (by omega)   _ _ _ hw (lv_sub hl [4, 5, 6, 7, 8, 1, 0] rfl)
          · skip
            have h124 : a &&& (15 - sD S) = a := (sb16 a (by omega) (15 - sD S) (by omega)).mp c_124
            refine lv_iload hx hb dX6_share_127 (lv_at hl 7 rfl) ?_
            refine lv_iload_n hx hb dX6_share_129 rfl (lv_at hl 2 rfl) ?_
            refine g_cS (As := [.int (nI a), .int (nI i)]) (n := 2) (rest := []) (wc := []) (w1 := []) (bytes := cX6_has) (maxL := 2) (ret := (some .boolean)) hc hw hl.1 (m_X6_has (l := l) (D := D) (E := E) (T := T) a i (by omega) (by omega)) gX6_share_X6_has rfl (by decide +kernel) (by rw [hR]; exact ⟨Nat.le_of_ble_eq_true rfl, Nat.le_of_ble_eq_true rfl⟩) [] (by decide) rfl [] rfl rfl rfl rfl (Nat.le_of_ble_eq_true rfl) dX6_share_130 ⟨Nat.zero_le _, Nat.zero_le _⟩ (fun H locs hw => ?_)
            have hw : g_W D A s [(o, .inr (6, [.int 0, u1, u2, .ref xa, .int (nI nw), .int (nI nf), .ref fa, u7, u8, u9, u10, .ref pa, .ref va, .ref ua, .ref ya, u15, u16, u17, u18, u19, u20, u21, u22, u23, u24, u25, u26, .ref wa, .ref la, .ref ta, .int (rS K1), .int (rN K1), .float (rH K1), .ref ma, .ref ww, .ref sa])), (xa, .inl (E 0, 12, .inl (g_tv 0))), (fa, .inl (E 0, 18, .inl fl)), (wa, .inl (E 0, 3, .inl (rW K1))), (la, .inl (E 1, 4, .inr (.inr (.inl (rP K1))))), (ta, .inl (E 1, 4, .inr (.inr (.inl (rT K1))))), (ma, .inl (E 1, 3, .inr (.inr (.inl (rM K1))))), (sa, .inl (E 0, 9, .inl (g_tv 1))), (pa, .inl (E 0, 29, .inl (pgF S))), (va, .inl (E 1, 5, .inr (.inr (.inl (fl5 S))))), (ua, .inl (E 0, 29, .inl (pgF U1))), (ya, .inl (E 1, 5, .inr (.inr (.inl (fl5 U1))))), (ww, .inl (E 0, 16, .inl (wgR nw nf fl (x3F 0 0 0) S)))] H locs := hw
            refine lv_if_ne (tgt := 140) hx hb dX6_share_133 (by decide) (fun c_133 => ?_) (fun c_133 => ?_)
            · skip
              have k_133 := b2i_ne c_133
              refine lv_iconst (v := 0) hx hb dX6_share_140 (by decide) ?_
              refine lv_istore (lv' := [(8, .int 0), (7, .int (nI (pcn a))), (0, .ref o), (1, .int (nI i)), (2, .int (b2i up)), (3, .int (nI (15 - sD S))), (4, .int (nI (pcn (15 - sD S)))), (5, .int (shN (15 - sD S) (pcn (15 - sD S)) i (wgV nw nf fl (x3F 0 0 0) S) a)), (6, .int (nI a))]) hx hb dX6_share_141 hl (by decide) rfl (fun ls hl => ?_)
              refine lv_iload hx hb dX6_share_143 (lv_at hl 7 rfl) ?_
              refine lv_iload hx hb dX6_share_145 (lv_at hl 0 rfl) ?_
              refine lv_if_eq (tgt := 189) hx hb dX6_share_147 (by decide) (fun c_147 => ?_) (fun c_147 => absurd c_147 (by decide))
              refine lv_iconst (v := 0) hx hb dX6_share_189 (by decide) ?_
              refine lv_iadd hx hb dX6_share_190 ?_
              refine lv_istore (lv' := [(5, .int ((shN (15 - sD S) (pcn (15 - sD S)) i (wgV nw nf fl (x3F 0 0 0) S) a) + 0)), (8, .int 0), (7, .int (nI (pcn a))), (0, .ref o), (1, .int (nI i)), (2, .int (b2i up)), (3, .int (nI (15 - sD S))), (4, .int (nI (pcn (15 - sD S)))), (6, .int (nI a))]) hx hb dX6_share_191 hl (by decide) rfl (fun ls hl => ?_)
              refine lv_iinc (v := nI (a + 1)) (lv' := [(6, .int (nI (a + 1))), (5, .int ((shN (15 - sD S) (pcn (15 - sD S)) i (wgV nw nf fl (x3F 0 0 0) S) a) + 0)), (8, .int 0), (7, .int (nI (pcn a))), (0, .ref o), (1, .int (nI i)), (2, .int (b2i up)), (3, .int (nI (15 - sD S))), (4, .int (nI (pcn (15 - sD S))))]) hx hb dX6_share_193 hl (k := 8) rfl (n_inc1 rfl) (by decide) rfl (fun ls hl => ?_)
              refine lv_goto (tgt := 104) hx hb dX6_share_196 (by decide) ?_
              have hl := lv_conv hl 1 rfl (v' := (.int (shN (15 - sD S) (pcn (15 - sD S)) i (wgV nw nf fl (x3F 0 0 0) S) (a + 1)))) (by exact congrArg Value.int ((Int32.add_zero _).trans (if_neg (fun q => Bool.noConfusion (k_133.symm.trans q.2))).symm))
              have hl : lv_has ls 9 [(6, .int (nI (a + 1))), (5, .int (shN (15 - sD S) (pcn (15 - sD S)) i (wgV nw nf fl (x3F 0 0 0) S) (a + 1))), (8, .int 0), (7, .int (nI (pcn a))), (0, .ref o), (1, .int (nI i)), (2, .int (b2i up)), (3, .int (nI (15 - sD S))), (4, .int (nI (pcn (15 - sD S))))] := hl
              exact ih (a + 1) (by omega)   _ _ _ hw (lv_sub hl [4, 5, 6, 7, 8, 1, 0] rfl)
            · skip
              have k_133 := b2i_eq c_133
              have hsub := sh_sub (sD S) hok.d i (by omega) a (by omega) ⟨hal, h124, k_133⟩
              refine lv_iconst (v := 1) hx hb dX6_share_136 (by decide) ?_
              refine lv_goto (tgt := 141) hx hb dX6_share_137 (by decide) ?_
              refine lv_istore (lv' := [(8, .int 1), (7, .int (nI (pcn a))), (0, .ref o), (1, .int (nI i)), (2, .int (b2i up)), (3, .int (nI (15 - sD S))), (4, .int (nI (pcn (15 - sD S)))), (5, .int (shN (15 - sD S) (pcn (15 - sD S)) i (wgV nw nf fl (x3F 0 0 0) S) a)), (6, .int (nI a))]) hx hb dX6_share_141 hl (by decide) rfl (fun ls hl => ?_)
              refine lv_iload hx hb dX6_share_143 (lv_at hl 7 rfl) ?_
              refine lv_iload hx hb dX6_share_145 (lv_at hl 0 rfl) ?_
              refine lv_if_eq (tgt := 189) hx hb dX6_share_147 (by decide) (fun c_147 => absurd c_147 (by decide)) (fun c_147 => ?_)
              refine lv_iload hx hb dX6_share_150 (lv_at hl 1 rfl) ?_
              refine g_cS (As := [.int (nI (pcn a))]) (n := 1) (rest := [.int (shN (15 - sD S) (pcn (15 - sD S)) i (wgV nw nf fl (x3F 0 0 0) S) a)]) (wc := []) (w1 := []) (bytes := cX6_factorial) (maxL := 3) (ret := (some .int)) hc hw hl.1 (m_X6_factorial (l := l) (D := D) (E := E) (T := T) (pcn a) (by have := pcn_lt (a) (by omega); omega)) gX6_share_X6_factorial rfl (by decide +kernel) (by rw [hR]; exact ⟨Nat.le_of_ble_eq_true rfl, Nat.le_of_ble_eq_true rfl⟩) [] (by decide) rfl [] rfl rfl rfl rfl (Nat.le_of_ble_eq_true rfl) dX6_share_152 ⟨Nat.zero_le _, Nat.zero_le _⟩ (fun H locs hw => ?_)
              have hw : g_W D A s [(o, .inr (6, [.int 0, u1, u2, .ref xa, .int (nI nw), .int (nI nf), .ref fa, u7, u8, u9, u10, .ref pa, .ref va, .ref ua, .ref ya, u15, u16, u17, u18, u19, u20, u21, u22, u23, u24, u25, u26, .ref wa, .ref la, .ref ta, .int (rS K1), .int (rN K1), .float (rH K1), .ref ma, .ref ww, .ref sa])), (xa, .inl (E 0, 12, .inl (g_tv 0))), (fa, .inl (E 0, 18, .inl fl)), (wa, .inl (E 0, 3, .inl (rW K1))), (la, .inl (E 1, 4, .inr (.inr (.inl (rP K1))))), (ta, .inl (E 1, 4, .inr (.inr (.inl (rT K1))))), (ma, .inl (E 1, 3, .inr (.inr (.inl (rM K1))))), (sa, .inl (E 0, 9, .inl (g_tv 1))), (pa, .inl (E 0, 29, .inl (pgF S))), (va, .inl (E 1, 5, .inr (.inr (.inl (fl5 S))))), (ua, .inl (E 0, 29, .inl (pgF U1))), (ya, .inl (E 1, 5, .inr (.inr (.inl (fl5 U1))))), (ww, .inl (E 0, 16, .inl (wgR nw nf fl (x3F 0 0 0) S)))] H locs := hw
              refine lv_iload hx hb dX6_share_155 (lv_at hl 6 rfl) ?_
              refine lv_iconst (v := 1) hx hb dX6_share_157 (by decide) ?_
              refine lv_isub hx hb dX6_share_158 ?_
              refine lv_iload hx hb dX6_share_159 (lv_at hl 1 rfl) ?_
              refine lv_isub hx hb dX6_share_161 ?_
              refine W.eq (congrArg (fun z => F0 m 162 ls (.int z :: [.int (facF (pcn a)), .int (shN (15 - sD S) (pcn (15 - sD S)) i (wgV nw nf fl (x3F 0 0 0) S) a)])) (show (((nI (pcn (15 - sD S))) - 1) - (nI (pcn a)) : Int32) = nI (pcn (15 - sD S) - 1 - pcn a) from (n_sub (n_sub (b := 1) rfl rfl (by have := hsub.1; omega)) rfl (by have := hsub.1; omega)))) ?_
              refine g_cS (As := [.int (nI (pcn (15 - sD S) - 1 - pcn a))]) (n := 1) (rest := [.int (facF (pcn a)), .int (shN (15 - sD S) (pcn (15 - sD S)) i (wgV nw nf fl (x3F 0 0 0) S) a)]) (wc := []) (w1 := []) (bytes := cX6_factorial) (maxL := 3) (ret := (some .int)) hc hw hl.1 (m_X6_factorial (l := l) (D := D) (E := E) (T := T) (pcn (15 - sD S) - 1 - pcn a) (by have := pcn_lt ((15 - sD S)) (by omega); omega)) gX6_share_X6_factorial rfl (by decide +kernel) (by rw [hR]; exact ⟨Nat.le_of_ble_eq_true rfl, Nat.le_of_ble_eq_true rfl⟩) [] (by decide) rfl [] rfl rfl rfl rfl (Nat.le_of_ble_eq_true rfl) dX6_share_162 ⟨Nat.zero_le _, Nat.zero_le _⟩ (fun H locs hw => ?_)
              have hw : g_W D A s [(o, .inr (6, [.int 0, u1, u2, .ref xa, .int (nI nw), .int (nI nf), .ref fa, u7, u8, u9, u10, .ref pa, .ref va, .ref ua, .ref ya, u15, u16, u17, u18, u19, u20, u21, u22, u23, u24, u25, u26, .ref wa, .ref la, .ref ta, .int (rS K1), .int (rN K1), .float (rH K1), .ref ma, .ref ww, .ref sa])), (xa, .inl (E 0, 12, .inl (g_tv 0))), (fa, .inl (E 0, 18, .inl fl)), (wa, .inl (E 0, 3, .inl (rW K1))), (la, .inl (E 1, 4, .inr (.inr (.inl (rP K1))))), (ta, .inl (E 1, 4, .inr (.inr (.inl (rT K1))))), (ma, .inl (E 1, 3, .inr (.inr (.inl (rM K1))))), (sa, .inl (E 0, 9, .inl (g_tv 1))), (pa, .inl (E 0, 29, .inl (pgF S))), (va, .inl (E 1, 5, .inr (.inr (.inl (fl5 S))))), (ua, .inl (E 0, 29, .inl (pgF U1))), (ya, .inl (E 1, 5, .inr (.inr (.inl (fl5 U1))))), (ww, .inl (E 0, 16, .inl (wgR nw nf fl (x3F 0 0 0) S)))] H locs := hw
              refine lv_imul hx hb dX6_share_165 ?_
              refine lv_aload_n hx hb dX6_share_166 rfl (lv_at hl 2 rfl) ?_
              refine g_get (TT := TX6) hc hw inX6_share_X6 0 34 3 rfl rfl (by decide) rfl rfl dX6_share_167 ?_
              refine lv_iload hx hb dX6_share_170 (lv_at hl 8 rfl) ?_
              refine lv_iconst (v := 1) hx hb dX6_share_172 (by decide) ?_
              refine lv_iload_n hx hb dX6_share_173 rfl (lv_at hl 3 rfl) ?_
              refine lv_ishl hx hb dX6_share_174 ?_
              refine lv_ior hx hb dX6_share_175 ?_
              refine g_ild hc hw 12 (dIn a i) rfl (g_in16 a (by omega) i (by omega)) hsub.2.1 (by decide) dX6_share_176 ?_
              refine W.eq (congrArg (fun z => F0 m 177 ls (.int z :: [.int ((facF (pcn a)) * (facF (pcn (15 - sD S) - 1 - pcn a))), .int (shN (15 - sD S) (pcn (15 - sD S)) i (wgV nw nf fl (x3F 0 0 0) S) a)])) (show ((wgR nw nf fl (x3F 0 0 0) S) (dIn a i) : Int32) = (wgV nw nf fl (x3F 0 0 0) S) (dIn a i) from (if_pos hsub.2.2))) ?_
              refine lv_aload_n hx hb dX6_share_177 rfl (lv_at hl 2 rfl) ?_
              refine g_get (TT := TX6) hc hw inX6_share_X6 0 34 3 rfl rfl (by decide) rfl rfl dX6_share_178 ?_
              refine lv_iload hx hb dX6_share_181 (lv_at hl 8 rfl) ?_
              refine g_ild hc hw 12 a rfl rfl (by omega) (by decide) dX6_share_183 ?_
              refine W.eq (congrArg (fun z => F0 m 184 ls (.int z :: [.int ((wgV nw nf fl (x3F 0 0 0) S) (dIn a i)), .int ((facF (pcn a)) * (facF (pcn (15 - sD S) - 1 - pcn a))), .int (shN (15 - sD S) (pcn (15 - sD S)) i (wgV nw nf fl (x3F 0 0 0) S) a)])) (show ((wgR nw nf fl (x3F 0 0 0) S) a : Int32) = (wgV nw nf fl (x3F 0 0 0) S) a from (if_pos h124))) ?_
              refine lv_isub hx hb dX6_share_184 ?_
              refine lv_imul hx hb dX6_share_185 ?_
              refine lv_goto (tgt := 190) hx hb dX6_share_186 (by decide) ?_
              refine lv_iadd hx hb dX6_share_190 ?_
              refine lv_istore (lv' := [(5, .int ((shN (15 - sD S) (pcn (15 - sD S)) i (wgV nw nf fl (x3F 0 0 0) S) a) + (((facF (pcn a)) * (facF (pcn (15 - sD S) - 1 - pcn a))) * (((wgV nw nf fl (x3F 0 0 0) S) (dIn a i)) - ((wgV nw nf fl (x3F 0 0 0) S) a))))), (8, .int 1), (7, .int (nI (pcn a))), (0, .ref o), (1, .int (nI i)), (2, .int (b2i up)), (3, .int (nI (15 - sD S))), (4, .int (nI (pcn (15 - sD S)))), (6, .int (nI a))]) hx hb dX6_share_191 hl (by decide) rfl (fun ls hl => ?_)
              refine lv_iinc (v := nI (a + 1)) (lv' := [(6, .int (nI (a + 1))), (5, .int ((shN (15 - sD S) (pcn (15 - sD S)) i (wgV nw nf fl (x3F 0 0 0) S) a) + (((facF (pcn a)) * (facF (pcn (15 - sD S) - 1 - pcn a))) * (((wgV nw nf fl (x3F 0 0 0) S) (dIn a i)) - ((wgV nw nf fl (x3F 0 0 0) S) a))))), (8, .int 1), (7, .int (nI (pcn a))), (0, .ref o), (1, .int (nI i)), (2, .int (b2i up)), (3, .int (nI (15 - sD S))), (4, .int (nI (pcn (15 - sD S))))]) hx hb dX6_share_193 hl (k := 8) rfl (n_inc1 rfl) (by decide) rfl (fun ls hl => ?_)
              refine lv_goto (tgt := 104) hx hb dX6_share_196 (by decide) ?_
              have hl := lv_conv hl 1 rfl (v' := (.int (shN (15 - sD S) (pcn (15 - sD S)) i (wgV nw nf fl (x3F 0 0 0) S) (a + 1)))) (by exact congrArg Value.int ((if_pos ⟨h124, k_133⟩).symm))
              have hl : lv_has ls 9 [(6, .int (nI (a + 1))), (5, .int (shN (15 - sD S) (pcn (15 - sD S)) i (wgV nw nf fl (x3F 0 0 0) S) (a + 1))), (8, .int 1), (7, .int (nI (pcn a))), (0, .ref o), (1, .int (nI i)), (2, .int (b2i up)), (3, .int (nI (15 - sD S))), (4, .int (nI (pcn (15 - sD S))))] := hl
              exact ih (a + 1) (by omega)   _ _ _ hw (lv_sub hl [4, 5, 6, 7, 8, 1, 0] rfl)
      have hl := lv_conv hl 1 rfl (v' := (.int (shN (15 - sD S) (pcn (15 - sD S)) i (wgV nw nf fl (x3F 0 0 0) S) 0))) (by rfl)
      have hl : lv_has ls 9 [(6, .int 0), (5, .int (shN (15 - sD S) (pcn (15 - sD S)) i (wgV nw nf fl (x3F 0 0 0) S) 0)), (4, .int (nI (pcn (15 - sD S)))), (0, .ref o), (1, .int (nI i)), (2, .int (b2i up)), (3, .int (nI (15 - sD S)))] := hl
      exact J104 16 0 (by omega)   _ _ _ hw (lv_sub hl [3, 4, 5, 6, 2, 1, 0] rfl)
    | succ k9 ih =>
      intro a h9 K1 U1  H locs ls hw hl
      have h9b : a < 16 := by omega
      refine lv_iload hx hb dX6_share_45 (lv_at hl 4 rfl) ?_
      refine lv_bipush (v := 16) hx hb dX6_share_47 (by decide) ?_
      refine lv_icmp_ge (tgt := 92) hx hb dX6_share_49 (by decide) (fun c_49 => absurd c_49 (nI_ge h9b (by decide))) (fun c_49 => ?_)
      refine lv_aload_n hx hb dX6_share_52 rfl (lv_at hl 0 rfl) ?_
      refine g_get (TT := TX6) hc hw inX6_share_X6 0 34 3 rfl rfl (by decide) rfl rfl dX6_share_53 ?_
      refine lv_iload hx hb dX6_share_56 (lv_at hl 4 rfl) ?_
      refine lv_iload hx hb dX6_share_58 (lv_at hl 4 rfl) ?_
      refine lv_iload_n hx hb dX6_share_60 rfl (lv_at hl 3 rfl) ?_
      refine lv_iconst (v := (-1)) hx hb dX6_share_61 (by decide) ?_
      refine lv_ixor hx hb dX6_share_62 ?_
      refine lv_iand hx hb dX6_share_63 ?_
      refine lv_if_ne (tgt := 84) hx hb dX6_share_64 (by decide) (fun c_64 => ?_) (fun c_64 => ?_)
      · skip
        have h64 : ¬ a &&& (15 - sD S) = a := fun q => c_64 ((sb16 a (by omega) (15 - sD S) (by omega)).mpr q)
        refine lv_iconst (v := 0) hx hb dX6_share_84 (by decide) ?_
        refine g_ist hc hw 12 a rfl rfl (by omega) (by decide) dX6_share_85 (fun H locs hw => ?_)
        have hw : g_W D A s [(o, .inr (6, [.int 0, u1, u2, .ref xa, .int (nI nw), .int (nI nf), .ref fa, u7, u8, u9, u10, .ref pa, .ref va, .ref ua, .ref ya, u15, u16, u17, u18, u19, u20, u21, u22, u23, u24, u25, u26, .ref wa, .ref la, .ref ta, .int (rS K1), .int (rN K1), .float (rH K1), .ref ma, .ref ww, .ref sa])), (xa, .inl (E 0, 12, .inl (g_tv 0))), (fa, .inl (E 0, 18, .inl fl)), (wa, .inl (E 0, 3, .inl (rW K1))), (la, .inl (E 1, 4, .inr (.inr (.inl (rP K1))))), (ta, .inl (E 1, 4, .inr (.inr (.inl (rT K1))))), (ma, .inl (E 1, 3, .inr (.inr (.inl (rM K1))))), (sa, .inl (E 0, 9, .inl (g_tv 1))), (pa, .inl (E 0, 29, .inl (pgF S))), (va, .inl (E 1, 5, .inr (.inr (.inl (fl5 S))))), (ua, .inl (E 0, 29, .inl (pgF U1))), (ya, .inl (E 1, 5, .inr (.inr (.inl (fl5 U1))))), (ww, .inl (E 0, 16, .inl (upd (cpI (wgR nw nf fl (x3F 0 0 0) S) g a) a 0)))] H locs := hw
        refine lv_iinc (v := nI (a + 1)) (lv' := [(4, .int (nI (a + 1))), (0, .ref o), (1, .int (nI i)), (2, .int (b2i up)), (3, .int (nI (15 - sD S)))]) hx hb dX6_share_86 hl (k := 4) rfl (n_inc1 rfl) (by decide) rfl (fun ls hl => ?_)
        refine lv_goto (tgt := 45) hx hb dX6_share_89 (by decide) ?_
        have hw : g_W D A s [(o, .inr (6, [.int 0, u1, u2, .ref xa, .int (nI nw), .int (nI nf), .ref fa, u7, u8, u9, u10, .ref pa, .ref va, .ref ua, .ref ya, u15, u16, u17, u18, u19, u20, u21, u22, u23, u24, u25, u26, .ref wa, .ref la, .ref ta, .int (rS K1), .int (rN K1), .float (rH K1), .ref ma, .ref ww, .ref sa])), (xa, .inl (E 0, 12, .inl (g_tv 0))), (fa, .inl (E 0, 18, .inl fl)), (wa, .inl (E 0, 3, .inl (rW K1))), (la, .inl (E 1, 4, .inr (.inr (.inl (rP K1))))), (ta, .inl (E 1, 4, .inr (.inr (.inl (rT K1))))), (ma, .inl (E 1, 3, .inr (.inr (.inl (rM K1))))), (sa, .inl (E 0, 9, .inl (g_tv 1))), (pa, .inl (E 0, 29, .inl (pgF S))), (va, .inl (E 1, 5, .inr (.inr (.inl (fl5 S))))), (ua, .inl (E 0, 29, .inl (pgF U1))), (ya, .inl (E 1, 5, .inr (.inr (.inl (fl5 U1))))), (ww, .inl (E 0, 16, .inl (cpI (wgR nw nf fl (x3F 0 0 0) S) g (a + 1))))] H locs := by
          have e12 : (upd (cpI (wgR nw nf fl (x3F 0 0 0) S) g a) a 0) = (cpI (wgR nw nf fl (x3F 0 0 0) S) g (a + 1)) := by exact cpI_s g ((if_neg h64).symm)
          rw [e12] at hw
          exact hw
        exact ih (a + 1) (by omega) K1 U1  _ _ _ hw (lv_sub hl [1, 2, 3, 4, 0] rfl)
      · skip
        have h64 : a &&& (15 - sD S) = a := (sb16 a (by omega) (15 - sD S) (by omega)).mp c_64
        refine lv_bipush (v := 20) hx hb dX6_share_67 (by decide) ?_
        refine lv_aload_n hx hb dX6_share_69 rfl (lv_at hl 0 rfl) ?_
        refine lv_bipush (v := 15) hx hb dX6_share_70 (by decide) ?_
        refine lv_iload hx hb dX6_share_72 (lv_at hl 4 rfl) ?_
        refine lv_iconst (v := (-1)) hx hb dX6_share_74 (by decide) ?_
        refine lv_ixor hx hb dX6_share_75 ?_
        refine lv_iand hx hb dX6_share_76 ?_
        refine W.eq (congrArg (fun z => F0 m 77 ls (.int z :: [.ref o, .int 20, .int (nI a), .ref ww])) (show (15 &&& ((nI a) ^^^ (-1)) : Int32) = nI (15 - a) from (not15 _ (by omega)))) ?_
        refine g_cEV (As := [.int (nI (15 - a))]) (n := 1) (rest := [.int 20, .int (nI a), .ref ww]) (wc := [(o, .inr (6, [.int 0, u1, u2, .ref xa, .int (nI nw), .int (nI nf), .ref fa, u7, u8, u9, u10, .ref pa, .ref va, .ref ua, .ref ya, u15, u16, u17, u18, u19, u20, u21, u22, u23, u24, u25, u26, .ref wa, .ref la, .ref ta, .int (rS K1), .int (rN K1), .float (rH K1), .ref ma, .ref ww, .ref sa])), (xa, .inl (E 0, 12, .inl (g_tv 0))), (fa, .inl (E 0, 18, .inl fl)), (wa, .inl (E 0, 3, .inl (rW K1))), (la, .inl (E 1, 4, .inr (.inr (.inl (rP K1))))), (ta, .inl (E 1, 4, .inr (.inr (.inl (rT K1))))), (ma, .inl (E 1, 3, .inr (.inr (.inl (rM K1))))), (sa, .inl (E 0, 9, .inl (g_tv 1))), (pa, .inl (E 0, 29, .inl (pgF S))), (va, .inl (E 1, 5, .inr (.inr (.inl (fl5 S))))), (ua, .inl (E 0, 29, .inl (pgF U1))), (ya, .inl (E 1, 5, .inr (.inr (.inl (fl5 U1)))))]) (w1 := (fun (K1 : RJ) => [(o, .inr (6, [.int 0, u1, u2, .ref xa, .int (nI nw), .int (nI nf), .ref fa, u7, u8, u9, u10, .ref pa, .ref va, .ref ua, .ref ya, u15, u16, u17, u18, u19, u20, u21, u22, u23, u24, u25, u26, .ref wa, .ref la, .ref ta, .int (rS K1), .int (rN K1), .float (rH K1), .ref ma, .ref ww, .ref sa])), (xa, .inl (E 0, 12, .inl (g_tv 0))), (fa, .inl (E 0, 18, .inl fl)), (wa, .inl (E 0, 3, .inl (rW K1))), (la, .inl (E 1, 4, .inr (.inr (.inl (rP K1))))), (ta, .inl (E 1, 4, .inr (.inr (.inl (rT K1))))), (ma, .inl (E 1, 3, .inr (.inr (.inl (rM K1))))), (sa, .inl (E 0, 9, .inl (g_tv 1))), (pa, .inl (E 0, 29, .inl (pgF S))), (va, .inl (E 1, 5, .inr (.inr (.inl (fl5 S))))), (ua, .inl (E 0, 29, .inl (pgF (tkN nw nf fl (x3F 0 0 0) (dvS S (15 - a)) 20)))), (ya, .inl (E 1, 5, .inr (.inr (.inl (fl5 (tkN nw nf fl (x3F 0 0 0) (dvS S (15 - a)) 20))))))])) (bytes := cX6_badBy) (maxL := 2) (ret := (some .int)) hc hw hl.1 (m_X6_badBy_x (l := l) (D := D) (E := E) (T := T) o xa fa wa la ta ma sa nw nf pa va ua ya B (.int 0) u1 u2 u7 u8 u9 u10 u15 u16 u17 u18 u19 u20 u21 u22 u23 u24 u25 u26 (.ref ww) fl S U1 K1 (15 - a) hok (by first | assumption | omega | decide) (by first | assumption | omega | decide) (by first | assumption | omega | decide) (by omega)) gX6_share_X6_badBy rfl (by decide +kernel) (by rw [hR]; exact ⟨Nat.le_of_ble_eq_true rfl, Nat.le_of_ble_eq_true rfl⟩) [0, 1, 2, 3, 4, 5, 6, 7, 8, 9, 10, 11] 0 6 rfl rfl (by decide) rfl [o, xa, fa, wa, la, ta, ma, sa, pa, va, ua, ya] (fun _ => rfl) rfl rfl rfl (Nat.le_of_ble_eq_true rfl) dX6_share_77 ⟨Nat.zero_le _, Nat.zero_le _⟩ (fun u_1 H locs hw => ?_)
        obtain ⟨K1_u_1, rfl⟩ : ∃ z, z = u_1 := ⟨_, rfl⟩
        have hw : g_W D A s [(o, .inr (6, [.int 0, u1, u2, .ref xa, .int (nI nw), .int (nI nf), .ref fa, u7, u8, u9, u10, .ref pa, .ref va, .ref ua, .ref ya, u15, u16, u17, u18, u19, u20, u21, u22, u23, u24, u25, u26, .ref wa, .ref la, .ref ta, .int (rS K1_u_1), .int (rN K1_u_1), .float (rH K1_u_1), .ref ma, .ref ww, .ref sa])), (xa, .inl (E 0, 12, .inl (g_tv 0))), (fa, .inl (E 0, 18, .inl fl)), (wa, .inl (E 0, 3, .inl (rW K1_u_1))), (la, .inl (E 1, 4, .inr (.inr (.inl (rP K1_u_1))))), (ta, .inl (E 1, 4, .inr (.inr (.inl (rT K1_u_1))))), (ma, .inl (E 1, 3, .inr (.inr (.inl (rM K1_u_1))))), (sa, .inl (E 0, 9, .inl (g_tv 1))), (pa, .inl (E 0, 29, .inl (pgF S))), (va, .inl (E 1, 5, .inr (.inr (.inl (fl5 S))))), (ua, .inl (E 0, 29, .inl (pgF (tkN nw nf fl (x3F 0 0 0) (dvS S (15 - a)) 20)))), (ya, .inl (E 1, 5, .inr (.inr (.inl (fl5 (tkN nw nf fl (x3F 0 0 0) (dvS S (15 - a)) 20)))))), (ww, .inl (E 0, 16, .inl (cpI (wgR nw nf fl (x3F 0 0 0) S) g a)))] H locs := hw
        refine lv_isub hx hb dX6_share_80 ?_
        refine lv_goto (tgt := 85) hx hb dX6_share_81 (by decide) ?_
        refine g_ist hc hw 12 a rfl rfl (by omega) (by decide) dX6_share_85 (fun H locs hw => ?_)
        have hw : g_W D A s [(o, .inr (6, [.int 0, u1, u2, .ref xa, .int (nI nw), .int (nI nf), .ref fa, u7, u8, u9, u10, .ref pa, .ref va, .ref ua, .ref ya, u15, u16, u17, u18, u19, u20, u21, u22, u23, u24, u25, u26, .ref wa, .ref la, .ref ta, .int (rS K1_u_1), .int (rN K1_u_1), .float (rH K1_u_1), .ref ma, .ref ww, .ref sa])), (xa, .inl (E 0, 12, .inl (g_tv 0))), (fa, .inl (E 0, 18, .inl fl)), (wa, .inl (E 0, 3, .inl (rW K1_u_1))), (la, .inl (E 1, 4, .inr (.inr (.inl (rP K1_u_1))))), (ta, .inl (E 1, 4, .inr (.inr (.inl (rT K1_u_1))))), (ma, .inl (E 1, 3, .inr (.inr (.inl (rM K1_u_1))))), (sa, .inl (E 0, 9, .inl (g_tv 1))), (pa, .inl (E 0, 29, .inl (pgF S))), (va, .inl (E 1, 5, .inr (.inr (.inl (fl5 S))))), (ua, .inl (E 0, 29, .inl (pgF (tkN nw nf fl (x3F 0 0 0) (dvS S (15 - a)) 20)))), (ya, .inl (E 1, 5, .inr (.inr (.inl (fl5 (tkN nw nf fl (x3F 0 0 0) (dvS S (15 - a)) 20)))))), (ww, .inl (E 0, 16, .inl (upd (cpI (wgR nw nf fl (x3F 0 0 0) S) g a) a (20 - (clR nw nf fl (x3F 0 0 0) (dvS S (15 - a)) 20)))))] H locs := hw
        refine lv_iinc (v := nI (a + 1)) (lv' := [(4, .int (nI (a + 1))), (0, .ref o), (1, .int (nI i)), (2, .int (b2i up)), (3, .int (nI (15 - sD S)))]) hx hb dX6_share_86 hl (k := 4) rfl (n_inc1 rfl) (by decide) rfl (fun ls hl => ?_)
        refine lv_goto (tgt := 45) hx hb dX6_share_89 (by decide) ?_
        have hw : g_W D A s [(o, .inr (6, [.int 0, u1, u2, .ref xa, .int (nI nw), .int (nI nf), .ref fa, u7, u8, u9, u10, .ref pa, .ref va, .ref ua, .ref ya, u15, u16, u17, u18, u19, u20, u21, u22, u23, u24, u25, u26, .ref wa, .ref la, .ref ta, .int (rS K1_u_1), .int (rN K1_u_1), .float (rH K1_u_1), .ref ma, .ref ww, .ref sa])), (xa, .inl (E 0, 12, .inl (g_tv 0))), (fa, .inl (E 0, 18, .inl fl)), (wa, .inl (E 0, 3, .inl (rW K1_u_1))), (la, .inl (E 1, 4, .inr (.inr (.inl (rP K1_u_1))))), (ta, .inl (E 1, 4, .inr (.inr (.inl (rT K1_u_1))))), (ma, .inl (E 1, 3, .inr (.inr (.inl (rM K1_u_1))))), (sa, .inl (E 0, 9, .inl (g_tv 1))), (pa, .inl (E 0, 29, .inl (pgF S))), (va, .inl (E 1, 5, .inr (.inr (.inl (fl5 S))))), (ua, .inl (E 0, 29, .inl (pgF (tkN nw nf fl (x3F 0 0 0) (dvS S (15 - a)) 20)))), (ya, .inl (E 1, 5, .inr (.inr (.inl (fl5 (tkN nw nf fl (x3F 0 0 0) (dvS S (15 - a)) 20)))))), (ww, .inl (E 0, 16, .inl (cpI (wgR nw nf fl (x3F 0 0 0) S) g (a + 1))))] H locs := by
          have e12 : (upd (cpI (wgR nw nf fl (x3F 0 0 0) S) g a) a (20 - (clR nw nf fl (x3F 0 0 0) (dvS S (15 - a)) 20))) = (cpI (wgR nw nf fl (x3F 0 0 0) S) g (a + 1)) := by exact cpI_s g ((wr_T h64).symm)
          rw [e12] at hw
          exact hw
        exact ih (a + 1) (by omega) K1_u_1 (tkN nw nf fl (x3F 0 0 0) (dvS S (15 - a)) 20)  _ _ _ hw (lv_sub hl [1, 2, 3, 4, 0] rfl)
  have hw : g_W D A s [(o, .inr (6, [.int 0, u1, u2, .ref xa, .int (nI nw), .int (nI nf), .ref fa, u7, u8, u9, u10, .ref pa, .ref va, .ref ua, .ref ya, u15, u16, u17, u18, u19, u20, u21, u22, u23, u24, u25, u26, .ref wa, .ref la, .ref ta, .int (rS K), .int (rN K), .float (rH K), .ref ma, .ref ww, .ref sa])), (xa, .inl (E 0, 12, .inl (g_tv 0))), (fa, .inl (E 0, 18, .inl fl)), (wa, .inl (E 0, 3, .inl (rW K))), (la, .inl (E 1, 4, .inr (.inr (.inl (rP K))))), (ta, .inl (E 1, 4, .inr (.inr (.inl (rT K))))), (ma, .inl (E 1, 3, .inr (.inr (.inl (rM K))))), (sa, .inl (E 0, 9, .inl (g_tv 1))), (pa, .inl (E 0, 29, .inl (pgF S))), (va, .inl (E 1, 5, .inr (.inr (.inl (fl5 S))))), (ua, .inl (E 0, 29, .inl (pgF U))), (ya, .inl (E 1, 5, .inr (.inr (.inl (fl5 U))))), (ww, .inl (E 0, 16, .inl (cpI (wgR nw nf fl (x3F 0 0 0) S) g 0)))] H locs := by
    have e12 : g = (cpI (wgR nw nf fl (x3F 0 0 0) S) g 0) := by exact cpI_0 _ g
    rw [e12] at hw
    exact hw
  exact J45 16 0 (by omega) K U  _ _ _ hw (lv_sub hl [2, 3, 4, 1, 0] rfl)

theorem dX6_lost_0 : decode cX6_lost 0 = .ok (.aload_n 0, 1) := by decide +kernel
theorem dX6_lost_1 : decode cX6_lost 1 = .ok (.iconst 0, 1) := by decide +kernel
theorem dX6_lost_2 : decode cX6_lost 2 = .ok (.putfield 88, 3) := by decide +kernel
theorem dX6_lost_5 : decode cX6_lost 5 = .ok (.iload_n 1, 1) := by decide +kernel
theorem dX6_lost_6 : decode cX6_lost 6 = .ok (.i2l, 1) := by decide +kernel
theorem dX6_lost_7 : decode cX6_lost 7 = .ok (.lconst 0, 1) := by decide +kernel
theorem dX6_lost_8 : decode cX6_lost 8 = .ok (.ldc2_w 241, 3) := by decide +kernel
theorem dX6_lost_11 : decode cX6_lost 11 = .ok (.invokestatic 94, 3) := by decide +kernel
theorem dX6_lost_14 : decode cX6_lost 14 = .ok (.ifCond .ne 6, 3) := by decide +kernel
theorem dX6_lost_17 : decode cX6_lost 17 = .ok (.bipush (-2), 2) := by decide +kernel
theorem dX6_lost_19 : decode cX6_lost 19 = .ok (.ireturn, 1) := by decide +kernel
set_option maxRecDepth 20000 in
theorem ggX6_lost_X6_in : GoodIn wsX6_lost wsX6_in := goodIn_r _ [7] rfl (by decide +kernel)
set_option maxRecDepth 20000 in
theorem gX6_lost_X6_in : GoodIn wsX6_lost (va_wsS RX6 94 yX6_in wsX6_in) := goodIn_app (goodIn_of _ (by decide +kernel)) ggX6_lost_X6_in
theorem inX6_lost_X6 : ∀ w ∈ u_ws RX6 TX6 36, w ∈ wsX6_lost := fun w h => List.mem_cons_of_mem _ (List.mem_append_right _ h)
set_option maxRecDepth 100000 in
set_option maxHeartbeats 4000000 in
theorem m_X6_lost_out {l : Launch} {D : va_G} {E : Nat → ClassId} {T : Nat → Nat} (o : Nat) (u0 : Value) (u1 : Value) (u2 : Value) (u3 : Value) (u4 : Value) (u5 : Value) (u6 : Value) (u7 : Value) (u8 : Value) (u9 : Value) (u10 : Value) (u11 : Value) (u12 : Value) (u13 : Value) (u14 : Value) (u15 : Value) (u16 : Value) (u17 : Value) (u18 : Value) (u19 : Value) (u20 : Value) (u21 : Value) (u22 : Value) (u23 : Value) (u24 : Value) (u25 : Value) (u26 : Value) (u27 : Value) (u28 : Value) (u29 : Value) (u30 : Value) (u31 : Value) (u32 : Value) (u33 : Value) (u34 : Value) (u35 : Value) (v : Int32) (b : Int32) (ho : outB v 0 10 = true) : g_M l D E T yX6_lost wsX6_lost 1 25 [.ref o, .int v, .int b] [(o, .inr (6, [u0, u1, u2, u3, u4, u5, u6, u7, u8, u9, u10, u11, u12, u13, u14, u15, u16, u17, u18, u19, u20, u21, u22, u23, u24, u25, u26, u27, u28, u29, u30, u31, u32, u33, u34, u35]))] [(o, .inr (6, [.int 0, u1, u2, u3, u4, u5, u6, u7, u8, u9, u10, u11, u12, u13, u14, u15, u16, u17, u18, u19, u20, u21, u22, u23, u24, u25, u26, u27, u28, u29, u30, u31, u32, u33, u34, u35]))] (some (.int (-2))) := by
  refine g_M.of (cc := cX6_lost) (nL := 8) (ret := (some .int)) (own := RX6) (lv := [(0, .ref o), (1, .int v), (2, .int b)]) (by decide) rfl rfl (Nat.le_of_ble_eq_true rfl) rfl ?_
  intro p e R s m args below meth c A Q H locs ls hR hQ hc hr hw hl
  have hx := hc.1
  have hb := hc.2.1
  have hts := hc.2.2.2.1
  have hown := hc.2.2.2.2.1
  refine lv_aload_n hx hb dX6_lost_0 rfl (lv_at hl 0 rfl) ?_
  refine lv_iconst (v := 0) hx hb dX6_lost_1 (by decide) ?_
  refine g_put (TT := TX6) hc hw inX6_lost_X6 tyX6 tyX6_ok nmX6 0 0 1 rfl rfl (by decide) rfl rfl rfl rfl (Nat.le_of_ble_eq_true rfl) dX6_lost_2 (fun H locs hw => ?_)
  have hw : g_W D A s [(o, .inr (6, [.int 0, u1, u2, u3, u4, u5, u6, u7, u8, u9, u10, u11, u12, u13, u14, u15, u16, u17, u18, u19, u20, u21, u22, u23, u24, u25, u26, u27, u28, u29, u30, u31, u32, u33, u34, u35]))] H locs := hw
  refine lv_iload_n hx hb dX6_lost_5 rfl (lv_at hl 1 rfl) ?_
  refine lv_i2l hx hb dX6_lost_6 rfl ?_
  refine lv_lconst (v := 0) hx hb dX6_lost_7 (by decide) ?_
  refine lv_ldc2 (v := 10) hx hb hown (hts _ (List.mem_of_getElem? (i := 2) rfl)) dX6_lost_8 ?_
  refine g_cS (As := [.long v.toInt64, .long 0, .long 10]) (n := 3) (rest := []) (wc := []) (w1 := []) (bytes := cX6_in) (maxL := 6) (ret := (some .boolean)) hc hw hl.1 (m_X6_in (l := l) (D := D) (E := E) (T := T) v.toInt64 0 10) gX6_lost_X6_in rfl (by decide +kernel) (by rw [hR]; exact ⟨Nat.le_of_ble_eq_true rfl, Nat.le_of_ble_eq_true rfl⟩) [] (by decide) rfl [] rfl rfl rfl rfl (Nat.le_of_ble_eq_true rfl) dX6_lost_11 ⟨Nat.zero_le _, Nat.zero_le _⟩ (fun H locs hw => ?_)
  have hw : g_W D A s [(o, .inr (6, [.int 0, u1, u2, u3, u4, u5, u6, u7, u8, u9, u10, u11, u12, u13, u14, u15, u16, u17, u18, u19, u20, u21, u22, u23, u24, u25, u26, u27, u28, u29, u30, u31, u32, u33, u34, u35]))] H locs := hw
  refine W.eq (congrArg (fun z => F0 m 14 ls (.int z :: [])) (show (b2i (inL v.toInt64 0 10) : Int32) = 0 from (congrArg b2i (in_o (a := 0) (b := 10) ho (by decide) (by decide))))) ?_
  refine lv_if_ne (tgt := 20) hx hb dX6_lost_14 (by decide) (fun c_14 => absurd c_14 (by decide)) (fun c_14 => ?_)
  refine lv_bipush (v := (-2)) hx hb dX6_lost_17 (by decide) ?_
  exact g_iret hQ hc hw hr rfl rfl dX6_lost_19

theorem dX6_lost_20 : decode cX6_lost 20 = .ok (.bipush 15, 2) := by decide +kernel
theorem dX6_lost_22 : decode cX6_lost 22 = .ok (.aload_n 0, 1) := by decide +kernel
theorem dX6_lost_23 : decode cX6_lost 23 = .ok (.getfield 25, 3) := by decide +kernel
theorem dX6_lost_26 : decode cX6_lost 26 = .ok (.iconst 0, 1) := by decide +kernel
theorem dX6_lost_27 : decode cX6_lost 27 = .ok (.iaload, 1) := by decide +kernel
theorem dX6_lost_28 : decode cX6_lost 28 = .ok (.iconst (-1), 1) := by decide +kernel
theorem dX6_lost_29 : decode cX6_lost 29 = .ok (.ixor, 1) := by decide +kernel
theorem dX6_lost_30 : decode cX6_lost 30 = .ok (.iand, 1) := by decide +kernel
theorem dX6_lost_31 : decode cX6_lost 31 = .ok (.istore_n 3, 1) := by decide +kernel
theorem dX6_lost_32 : decode cX6_lost 32 = .ok (.iload_n 3, 1) := by decide +kernel
theorem dX6_lost_33 : decode cX6_lost 33 = .ok (.invokestatic 202, 3) := by decide +kernel
theorem dX6_lost_36 : decode cX6_lost 36 = .ok (.istore 4, 2) := by decide +kernel
theorem dX6_lost_38 : decode cX6_lost 38 = .ok (.iconst 0, 1) := by decide +kernel
theorem dX6_lost_39 : decode cX6_lost 39 = .ok (.istore 5, 2) := by decide +kernel
theorem dX6_lost_41 : decode cX6_lost 41 = .ok (.iconst 0, 1) := by decide +kernel
theorem dX6_lost_42 : decode cX6_lost 42 = .ok (.istore 6, 2) := by decide +kernel
theorem dX6_lost_44 : decode cX6_lost 44 = .ok (.iload 6, 2) := by decide +kernel
theorem dX6_lost_46 : decode cX6_lost 46 = .ok (.bipush 16, 2) := by decide +kernel
theorem dX6_lost_48 : decode cX6_lost 48 = .ok (.if_icmp .ge 80, 3) := by decide +kernel
theorem dX6_lost_51 : decode cX6_lost 51 = .ok (.iload 6, 2) := by decide +kernel
theorem dX6_lost_53 : decode cX6_lost 53 = .ok (.iload_n 3, 1) := by decide +kernel
theorem dX6_lost_54 : decode cX6_lost 54 = .ok (.iconst (-1), 1) := by decide +kernel
theorem dX6_lost_55 : decode cX6_lost 55 = .ok (.ixor, 1) := by decide +kernel
theorem dX6_lost_56 : decode cX6_lost 56 = .ok (.iand, 1) := by decide +kernel
theorem dX6_lost_57 : decode cX6_lost 57 = .ok (.ifCond .ne 23, 3) := by decide +kernel
theorem dX6_lost_60 : decode cX6_lost 60 = .ok (.aload_n 0, 1) := by decide +kernel
theorem dX6_lost_61 : decode cX6_lost 61 = .ok (.aload_n 0, 1) := by decide +kernel
theorem dX6_lost_62 : decode cX6_lost 62 = .ok (.getfield 25, 3) := by decide +kernel
theorem dX6_lost_65 : decode cX6_lost 65 = .ok (.iconst 0, 1) := by decide +kernel
theorem dX6_lost_66 : decode cX6_lost 66 = .ok (.iaload, 1) := by decide +kernel
theorem dX6_lost_67 : decode cX6_lost 67 = .ok (.iload 6, 2) := by decide +kernel
theorem dX6_lost_69 : decode cX6_lost 69 = .ok (.ior, 1) := by decide +kernel
theorem dX6_lost_70 : decode cX6_lost 70 = .ok (.invokevirtual 278, 3) := by decide +kernel
theorem dX6_lost_73 : decode cX6_lost 73 = .ok (.ifCond .ne 7, 3) := by decide +kernel
theorem dX6_lost_76 : decode cX6_lost 76 = .ok (.iconst 1, 1) := by decide +kernel
theorem dX6_lost_77 : decode cX6_lost 77 = .ok (.goto 4, 3) := by decide +kernel
theorem dX6_lost_80 : decode cX6_lost 80 = .ok (.iconst 0, 1) := by decide +kernel
theorem dX6_lost_81 : decode cX6_lost 81 = .ok (.istore 7, 2) := by decide +kernel
theorem dX6_lost_83 : decode cX6_lost 83 = .ok (.iload 5, 2) := by decide +kernel
theorem dX6_lost_85 : decode cX6_lost 85 = .ok (.iload 7, 2) := by decide +kernel
theorem dX6_lost_87 : decode cX6_lost 87 = .ok (.ifCond .eq 31, 3) := by decide +kernel
theorem dX6_lost_90 : decode cX6_lost 90 = .ok (.iload_n 1, 1) := by decide +kernel
theorem dX6_lost_91 : decode cX6_lost 91 = .ok (.iload 6, 2) := by decide +kernel
theorem dX6_lost_93 : decode cX6_lost 93 = .ok (.invokestatic 202, 3) := by decide +kernel
theorem dX6_lost_96 : decode cX6_lost 96 = .ok (.invokestatic 288, 3) := by decide +kernel
theorem dX6_lost_99 : decode cX6_lost 99 = .ok (.bipush 10, 2) := by decide +kernel
theorem dX6_lost_101 : decode cX6_lost 101 = .ok (.iload_n 1, 1) := by decide +kernel
theorem dX6_lost_102 : decode cX6_lost 102 = .ok (.isub, 1) := by decide +kernel
theorem dX6_lost_103 : decode cX6_lost 103 = .ok (.iload 4, 2) := by decide +kernel
theorem dX6_lost_105 : decode cX6_lost 105 = .ok (.iload 6, 2) := by decide +kernel
theorem dX6_lost_107 : decode cX6_lost 107 = .ok (.invokestatic 202, 3) := by decide +kernel
theorem dX6_lost_110 : decode cX6_lost 110 = .ok (.isub, 1) := by decide +kernel
theorem dX6_lost_111 : decode cX6_lost 111 = .ok (.invokestatic 288, 3) := by decide +kernel
theorem dX6_lost_114 : decode cX6_lost 114 = .ok (.imul, 1) := by decide +kernel
theorem dX6_lost_115 : decode cX6_lost 115 = .ok (.goto 4, 3) := by decide +kernel
theorem dX6_lost_118 : decode cX6_lost 118 = .ok (.iconst 0, 1) := by decide +kernel
theorem dX6_lost_119 : decode cX6_lost 119 = .ok (.iadd, 1) := by decide +kernel
theorem dX6_lost_120 : decode cX6_lost 120 = .ok (.istore 5, 2) := by decide +kernel
theorem dX6_lost_122 : decode cX6_lost 122 = .ok (.iinc 6 1, 3) := by decide +kernel
theorem dX6_lost_125 : decode cX6_lost 125 = .ok (.goto (-81), 3) := by decide +kernel
theorem dX6_lost_128 : decode cX6_lost 128 = .ok (.iload 5, 2) := by decide +kernel
theorem dX6_lost_130 : decode cX6_lost 130 = .ok (.bipush 10, 2) := by decide +kernel
theorem dX6_lost_132 : decode cX6_lost 132 = .ok (.iload 4, 2) := by decide +kernel
theorem dX6_lost_134 : decode cX6_lost 134 = .ok (.invokestatic 288, 3) := by decide +kernel
theorem dX6_lost_137 : decode cX6_lost 137 = .ok (.iload_n 2, 1) := by decide +kernel
theorem dX6_lost_138 : decode cX6_lost 138 = .ok (.invokestatic 284, 3) := by decide +kernel
theorem dX6_lost_141 : decode cX6_lost 141 = .ok (.ireturn, 1) := by decide +kernel
set_option maxRecDepth 20000 in
theorem ggX6_lost_X6_ones : GoodIn wsX6_lost wsX6_ones := goodIn_r _ [10] rfl (by decide +kernel)
set_option maxRecDepth 20000 in
theorem gX6_lost_X6_ones : GoodIn wsX6_lost (va_wsS RX6 202 yX6_ones wsX6_ones) := goodIn_app (goodIn_of _ (by decide +kernel)) ggX6_lost_X6_ones
set_option maxRecDepth 20000 in
theorem ggX6_lost_X6_power : GoodIn wsX6_lost wsX6_power := goodIn_r _ [104] rfl (by decide +kernel)
set_option maxRecDepth 20000 in
theorem gX6_lost_X6_power : GoodIn wsX6_lost (va_wsS RX6 288 yX6_power wsX6_power) := goodIn_app (goodIn_of _ (by decide +kernel)) ggX6_lost_X6_power
set_option maxRecDepth 20000 in
theorem ggX6_lost_X6_fraction : GoodIn wsX6_lost wsX6_fraction := goodIn_r _ [107, 108, 109, 6, 110] rfl (by decide +kernel)
set_option maxRecDepth 20000 in
theorem gX6_lost_X6_fraction : GoodIn wsX6_lost (va_wsS RX6 284 yX6_fraction wsX6_fraction) := goodIn_app (goodIn_of _ (by decide +kernel)) ggX6_lost_X6_fraction
set_option maxRecDepth 20000 in
theorem ggX6_lost_X6_badBy : GoodIn wsX6_lost wsX6_badBy := goodIn_r _ [14, 15, 16, 17, 18, 6, 19, 3, 20, 21, 8, 9, 10, 22, 23, 24, 25, 26, 27, 28, 29, 30, 31, 32, 33, 34, 35, 36, 37, 38, 39, 40, 41, 42, 43, 44, 45, 46, 47, 48, 49, 50, 51, 52, 53, 54, 55, 56, 57, 58, 59, 60, 61, 62, 63, 64, 65, 66, 67, 68, 69, 70, 71, 72, 73, 74, 75, 76, 77, 78, 79, 80, 81, 82, 83, 84, 85, 86, 87, 88, 89, 90, 91, 92, 93, 94, 95, 96, 97, 98, 99, 100, 101, 111, 112, 113, 114, 115, 116, 117, 118, 119, 120, 121, 122, 123, 124, 125, 126, 127, 128, 129, 130, 131, 132, 133, 134, 135, 136, 137, 138, 139, 140, 141, 142, 143, 144, 145, 146] rfl (by decide +kernel)
set_option maxRecDepth 20000 in
theorem gX6_lost_X6_badBy : GoodIn wsX6_lost (wsV RX6 278 RX6 yX6_badBy wsX6_badBy) := goodIn_app (goodIn_of _ (by decide +kernel)) ggX6_lost_X6_badBy
set_option maxRecDepth 100000 in
set_option maxHeartbeats 4000000 in
theorem m_X6_lost {l : Launch} {D : va_G} {E : Nat → ClassId} {T : Nat → Nat} (o : Nat) (xa : Nat) (fa : Nat) (wa : Nat) (la : Nat) (ta : Nat) (ma : Nat) (sa : Nat) (nw : Nat) (nf : Nat) (pa : Nat) (va : Nat) (ua : Nat) (ya : Nat) (B : Nat) (u0 : Value) (u1 : Value) (u2 : Value) (u7 : Value) (u8 : Value) (u9 : Value) (u10 : Value) (u15 : Value) (u16 : Value) (u17 : Value) (u18 : Value) (u19 : Value) (u20 : Value) (u21 : Value) (u22 : Value) (u23 : Value) (u24 : Value) (u25 : Value) (u26 : Value) (u34 : Value) (fl : Nat → Int32) (S : TS) (U : TS) (K : RJ) (v : Nat) (up : Bool) (hok : OkS B S) (hB : B + 20 < 2 ^ 31) (hnw : nw ≤ 6) (hnf : nf ≤ 6) (hv : v ≤ 10) : g_ME l D E T yX6_lost wsX6_lost 9 215 [.ref o, .int (nI v), .int (b2i up)] [(o, .inr (6, [u0, u1, u2, .ref xa, .int (nI nw), .int (nI nf), .ref fa, u7, u8, u9, u10, .ref pa, .ref va, .ref ua, .ref ya, u15, u16, u17, u18, u19, u20, u21, u22, u23, u24, u25, u26, .ref wa, .ref la, .ref ta, .int (rS K), .int (rN K), .float (rH K), .ref ma, u34, .ref sa])), (xa, .inl (E 0, 12, .inl (g_tv 0))), (fa, .inl (E 0, 18, .inl fl)), (wa, .inl (E 0, 3, .inl (rW K))), (la, .inl (E 1, 4, .inr (.inr (.inl (rP K))))), (ta, .inl (E 1, 4, .inr (.inr (.inl (rT K))))), (ma, .inl (E 1, 3, .inr (.inr (.inl (rM K))))), (sa, .inl (E 0, 9, .inl (g_tv 1))), (pa, .inl (E 0, 29, .inl (pgF S))), (va, .inl (E 1, 5, .inr (.inr (.inl (fl5 S))))), (ua, .inl (E 0, 29, .inl (pgF U))), (ya, .inl (E 1, 5, .inr (.inr (.inl (fl5 U)))))] (fun (y9 : RJ × TS) => [(o, .inr (6, [.int 0, u1, u2, .ref xa, .int (nI nw), .int (nI nf), .ref fa, u7, u8, u9, u10, .ref pa, .ref va, .ref ua, .ref ya, u15, u16, u17, u18, u19, u20, u21, u22, u23, u24, u25, u26, .ref wa, .ref la, .ref ta, .int (rS y9.1), .int (rN y9.1), .float (rH y9.1), .ref ma, u34, .ref sa])), (xa, .inl (E 0, 12, .inl (g_tv 0))), (fa, .inl (E 0, 18, .inl fl)), (wa, .inl (E 0, 3, .inl (rW y9.1))), (la, .inl (E 1, 4, .inr (.inr (.inl (rP y9.1))))), (ta, .inl (E 1, 4, .inr (.inr (.inl (rT y9.1))))), (ma, .inl (E 1, 3, .inr (.inr (.inl (rM y9.1))))), (sa, .inl (E 0, 9, .inl (g_tv 1))), (pa, .inl (E 0, 29, .inl (pgF S))), (va, .inl (E 1, 5, .inr (.inr (.inl (fl5 S))))), (ua, .inl (E 0, 29, .inl (pgF y9.2))), (ya, .inl (E 1, 5, .inr (.inr (.inl (fl5 y9.2)))))]) (some (.int (frF (nI (loR nw nf fl (x3F 0 0 0) S v 16)) (10 ^ pcn (15 - sD S)) (loR nw nf fl (x3F 0 0 0) S v 16) up))) := by
  refine g_ME.of (cc := cX6_lost) (nL := 8) (ret := (some .int)) (own := RX6) (lv := [(0, .ref o), (1, .int (nI v)), (2, .int (b2i up))]) (by decide) rfl rfl (Nat.le_of_ble_eq_true rfl) rfl ?_
  intro p e R s m args below meth c A Q H locs ls hR hQ hc hr hw hl
  have hx := hc.1
  have hb := hc.2.1
  have hts := hc.2.2.2.1
  have hown := hc.2.2.2.2.1
  refine lv_aload_n hx hb dX6_lost_0 rfl (lv_at hl 0 rfl) ?_
  refine lv_iconst (v := 0) hx hb dX6_lost_1 (by decide) ?_
  refine g_put (TT := TX6) hc hw inX6_lost_X6 tyX6 tyX6_ok nmX6 0 0 1 rfl rfl (by decide) rfl rfl rfl rfl (Nat.le_of_ble_eq_true rfl) dX6_lost_2 (fun H locs hw => ?_)
  have hw : g_W D A s [(o, .inr (6, [.int 0, u1, u2, .ref xa, .int (nI nw), .int (nI nf), .ref fa, u7, u8, u9, u10, .ref pa, .ref va, .ref ua, .ref ya, u15, u16, u17, u18, u19, u20, u21, u22, u23, u24, u25, u26, .ref wa, .ref la, .ref ta, .int (rS K), .int (rN K), .float (rH K), .ref ma, u34, .ref sa])), (xa, .inl (E 0, 12, .inl (g_tv 0))), (fa, .inl (E 0, 18, .inl fl)), (wa, .inl (E 0, 3, .inl (rW K))), (la, .inl (E 1, 4, .inr (.inr (.inl (rP K))))), (ta, .inl (E 1, 4, .inr (.inr (.inl (rT K))))), (ma, .inl (E 1, 3, .inr (.inr (.inl (rM K))))), (sa, .inl (E 0, 9, .inl (g_tv 1))), (pa, .inl (E 0, 29, .inl (pgF S))), (va, .inl (E 1, 5, .inr (.inr (.inl (fl5 S))))), (ua, .inl (E 0, 29, .inl (pgF U))), (ya, .inl (E 1, 5, .inr (.inr (.inl (fl5 U)))))] H locs := hw
  refine lv_iload_n hx hb dX6_lost_5 rfl (lv_at hl 1 rfl) ?_
  refine lv_i2l hx hb dX6_lost_6 rfl ?_
  refine lv_lconst (v := 0) hx hb dX6_lost_7 (by decide) ?_
  refine lv_ldc2 (v := 10) hx hb hown (hts _ (List.mem_of_getElem? (i := 2) rfl)) dX6_lost_8 ?_
  refine g_cS (As := [.long ((nI v).toInt64), .long 0, .long 10]) (n := 3) (rest := []) (wc := []) (w1 := []) (bytes := cX6_in) (maxL := 6) (ret := (some .boolean)) hc hw hl.1 (m_X6_in (l := l) (D := D) (E := E) (T := T) ((nI v).toInt64) 0 10) gX6_lost_X6_in rfl (by decide +kernel) (by rw [hR]; exact ⟨Nat.le_of_ble_eq_true rfl, Nat.le_of_ble_eq_true rfl⟩) [] (by decide) rfl [] rfl rfl rfl rfl (Nat.le_of_ble_eq_true rfl) dX6_lost_11 ⟨Nat.zero_le _, Nat.zero_le _⟩ (fun H locs hw => ?_)
  have hw : g_W D A s [(o, .inr (6, [.int 0, u1, u2, .ref xa, .int (nI nw), .int (nI nf), .ref fa, u7, u8, u9, u10, .ref pa, .ref va, .ref ua, .ref ya, u15, u16, u17, u18, u19, u20, u21, u22, u23, u24, u25, u26, .ref wa, .ref la, .ref ta, .int (rS K), .int (rN K), .float (rH K), .ref ma, u34, .ref sa])), (xa, .inl (E 0, 12, .inl (g_tv 0))), (fa, .inl (E 0, 18, .inl fl)), (wa, .inl (E 0, 3, .inl (rW K))), (la, .inl (E 1, 4, .inr (.inr (.inl (rP K))))), (ta, .inl (E 1, 4, .inr (.inr (.inl (rT K))))), (ma, .inl (E 1, 3, .inr (.inr (.inl (rM K))))), (sa, .inl (E 0, 9, .inl (g_tv 1))), (pa, .inl (E 0, 29, .inl (pgF S))), (va, .inl (E 1, 5, .inr (.inr (.inl (fl5 S))))), (ua, .inl (E 0, 29, .inl (pgF U))), (ya, .inl (E 1, 5, .inr (.inr (.inl (fl5 U)))))] H locs := hw
  refine W.eq (congrArg (fun z => F0 m 14 ls (.int z :: [])) (show (b2i (inL ((nI v).toInt64) 0 10) : Int32) = 1 from (congrArg b2i (in_i (out_nf (n := v) (a := 0) (b := 10) (by omega) hv (by decide)) (by decide) (by decide))))) ?_
  refine lv_if_ne (tgt := 20) hx hb dX6_lost_14 (by decide) (fun c_14 => ?_) (fun c_14 => absurd c_14 (by decide))
  refine lv_bipush (v := 15) hx hb dX6_lost_20 (by decide) ?_
  refine lv_aload_n hx hb dX6_lost_22 rfl (lv_at hl 0 rfl) ?_
  refine g_get (TT := TX6) hc hw inX6_lost_X6 0 11 3 rfl rfl (by decide) rfl rfl dX6_lost_23 ?_
  refine lv_iconst (v := 0) hx hb dX6_lost_26 (by decide) ?_
  refine g_ild hc hw 8 0 rfl rfl (by omega) (by decide) dX6_lost_27 ?_
  refine W.eq (congrArg (fun z => F0 m 28 ls (.int z :: [.int 15])) (show ((pgF S) 0 : Int32) = nI (sD S) from rfl)) ?_
  refine lv_iconst (v := (-1)) hx hb dX6_lost_28 (by decide) ?_
  refine lv_ixor hx hb dX6_lost_29 ?_
  refine lv_iand hx hb dX6_lost_30 ?_
  refine W.eq (congrArg (fun z => F0 m 31 ls (.int z :: [])) (show (15 &&& ((nI (sD S)) ^^^ (-1)) : Int32) = nI (15 - sD S) from (not15 _ hok.d))) ?_
  refine lv_istore_n (lv' := [(3, .int (nI (15 - sD S))), (0, .ref o), (1, .int (nI v)), (2, .int (b2i up))]) hx hb dX6_lost_31 rfl hl (by decide) rfl (fun ls hl => ?_)
  refine lv_iload_n hx hb dX6_lost_32 rfl (lv_at hl 0 rfl) ?_
  refine g_cS (As := [.int (nI (15 - sD S))]) (n := 1) (rest := []) (wc := []) (w1 := []) (bytes := cX6_ones) (maxL := 3) (ret := (some .int)) hc hw hl.1 (m_X6_ones (l := l) (D := D) (E := E) (T := T) (15 - sD S) (by omega)) gX6_lost_X6_ones rfl (by decide +kernel) (by rw [hR]; exact ⟨Nat.le_of_ble_eq_true rfl, Nat.le_of_ble_eq_true rfl⟩) [] (by decide) rfl [] rfl rfl rfl rfl (Nat.le_of_ble_eq_true rfl) dX6_lost_33 ⟨Nat.zero_le _, Nat.zero_le _⟩ (fun H locs hw => ?_)
  have hw : g_W D A s [(o, .inr (6, [.int 0, u1, u2, .ref xa, .int (nI nw), .int (nI nf), .ref fa, u7, u8, u9, u10, .ref pa, .ref va, .ref ua, .ref ya, u15, u16, u17, u18, u19, u20, u21, u22, u23, u24, u25, u26, .ref wa, .ref la, .ref ta, .int (rS K), .int (rN K), .float (rH K), .ref ma, u34, .ref sa])), (xa, .inl (E 0, 12, .inl (g_tv 0))), (fa, .inl (E 0, 18, .inl fl)), (wa, .inl (E 0, 3, .inl (rW K))), (la, .inl (E 1, 4, .inr (.inr (.inl (rP K))))), (ta, .inl (E 1, 4, .inr (.inr (.inl (rT K))))), (ma, .inl (E 1, 3, .inr (.inr (.inl (rM K))))), (sa, .inl (E 0, 9, .inl (g_tv 1))), (pa, .inl (E 0, 29, .inl (pgF S))), (va, .inl (E 1, 5, .inr (.inr (.inl (fl5 S))))), (ua, .inl (E 0, 29, .inl (pgF U))), (ya, .inl (E 1, 5, .inr (.inr (.inl (fl5 U)))))] H locs := hw
  refine lv_istore (lv' := [(4, .int (nI (pcn (15 - sD S)))), (3, .int (nI (15 - sD S))), (0, .ref o), (1, .int (nI v)), (2, .int (b2i up))]) hx hb dX6_lost_36 hl (by decide) rfl (fun ls hl => ?_)
  refine lv_iconst (v := 0) hx hb dX6_lost_38 (by decide) ?_
  refine lv_istore (lv' := [(5, .int 0), (4, .int (nI (pcn (15 - sD S)))), (3, .int (nI (15 - sD S))), (0, .ref o), (1, .int (nI v)), (2, .int (b2i up))]) hx hb dX6_lost_39 hl (by decide) rfl (fun ls hl => ?_)
  refine lv_iconst (v := 0) hx hb dX6_lost_41 (by decide) ?_
  refine lv_istore (lv' := [(6, .int 0), (5, .int 0), (4, .int (nI (pcn (15 - sD S)))), (3, .int (nI (15 - sD S))), (0, .ref o), (1, .int (nI v)), (2, .int (b2i up))]) hx hb dX6_lost_42 hl (by decide) rfl (fun ls hl => ?_)
  have J44 : ∀ (k9 : Nat) (a : Nat), a + k9 = 16 → ∀ (K1 : RJ) (U1 : TS), ∀ (H : Heap) (locs : List Loc) (ls : Array Slot), g_W D A s [(o, .inr (6, [.int 0, u1, u2, .ref xa, .int (nI nw), .int (nI nf), .ref fa, u7, u8, u9, u10, .ref pa, .ref va, .ref ua, .ref ya, u15, u16, u17, u18, u19, u20, u21, u22, u23, u24, u25, u26, .ref wa, .ref la, .ref ta, .int (rS K1), .int (rN K1), .float (rH K1), .ref ma, u34, .ref sa])), (xa, .inl (E 0, 12, .inl (g_tv 0))), (fa, .inl (E 0, 18, .inl fl)), (wa, .inl (E 0, 3, .inl (rW K1))), (la, .inl (E 1, 4, .inr (.inr (.inl (rP K1))))), (ta, .inl (E 1, 4, .inr (.inr (.inl (rT K1))))), (ma, .inl (E 1, 3, .inr (.inr (.inl (rM K1))))), (sa, .inl (E 0, 9, .inl (g_tv 1))), (pa, .inl (E 0, 29, .inl (pgF S))), (va, .inl (E 1, 5, .inr (.inr (.inl (fl5 S))))), (ua, .inl (E 0, 29, .inl (pgF U1))), (ya, .inl (E 1, 5, .inr (.inr (.inl (fl5 U1)))))] H locs → lv_has ls 8 [(0, .ref o), (1, .int (nI v)), (2, .int (b2i up)), (3, .int (nI (15 - sD S))), (4, .int (nI (pcn (15 - sD S)))), (5, .int (nI (loR nw nf fl (x3F 0 0 0) S v a))), (6, .int (nI a))] → W p l e R s m args below meth c H locs 0 0 Q (F0 m 44 ls []) := by
    intro k9
    induction k9 with
    | zero =>
      intro a h9 K1 U1  H locs ls hw hl
      have h9 : a = 16 := h9
      subst h9
      refine lv_iload hx hb dX6_lost_44 (lv_at hl 6 rfl) ?_
      refine lv_bipush (v := 16) hx hb dX6_lost_46 (by decide) ?_
      refine lv_icmp_ge (tgt := 128) hx hb dX6_lost_48 (by decide) (fun c_48 => ?_) (fun c_48 => absurd (by first | exact Int32.le_refl _ | decide) c_48)
      refine lv_iload hx hb dX6_lost_128 (lv_at hl 5 rfl) ?_
      refine lv_bipush (v := 10) hx hb dX6_lost_130 (by decide) ?_
      refine lv_iload hx hb dX6_lost_132 (lv_at hl 4 rfl) ?_
      refine g_cS (As := [.int 10, .int (nI (pcn (15 - sD S)))]) (n := 2) (rest := [.int (nI (loR nw nf fl (x3F 0 0 0) S v 16))]) (wc := []) (w1 := []) (bytes := cX6_power) (maxL := 4) (ret := (some .int)) hc hw hl.1 (m_X6_power (l := l) (D := D) (E := E) (T := T) 10 (pcn (15 - sD S)) (by have := pcn_lt ((15 - sD S)) (by omega); omega)) gX6_lost_X6_power rfl (by decide +kernel) (by rw [hR]; exact ⟨Nat.le_of_ble_eq_true rfl, Nat.le_of_ble_eq_true rfl⟩) [] (by decide) rfl [] rfl rfl rfl rfl (Nat.le_of_ble_eq_true rfl) dX6_lost_134 ⟨Nat.zero_le _, Nat.zero_le _⟩ (fun H locs hw => ?_)
      have hw : g_W D A s [(o, .inr (6, [.int 0, u1, u2, .ref xa, .int (nI nw), .int (nI nf), .ref fa, u7, u8, u9, u10, .ref pa, .ref va, .ref ua, .ref ya, u15, u16, u17, u18, u19, u20, u21, u22, u23, u24, u25, u26, .ref wa, .ref la, .ref ta, .int (rS K1), .int (rN K1), .float (rH K1), .ref ma, u34, .ref sa])), (xa, .inl (E 0, 12, .inl (g_tv 0))), (fa, .inl (E 0, 18, .inl fl)), (wa, .inl (E 0, 3, .inl (rW K1))), (la, .inl (E 1, 4, .inr (.inr (.inl (rP K1))))), (ta, .inl (E 1, 4, .inr (.inr (.inl (rT K1))))), (ma, .inl (E 1, 3, .inr (.inr (.inl (rM K1))))), (sa, .inl (E 0, 9, .inl (g_tv 1))), (pa, .inl (E 0, 29, .inl (pgF S))), (va, .inl (E 1, 5, .inr (.inr (.inl (fl5 S))))), (ua, .inl (E 0, 29, .inl (pgF U1))), (ya, .inl (E 1, 5, .inr (.inr (.inl (fl5 U1)))))] H locs := hw
      refine W.eq (congrArg (fun z => F0 m 137 ls (.int z :: [.int (nI (loR nw nf fl (x3F 0 0 0) S v 16))])) (show (pwF 10 (pcn (15 - sD S)) : Int32) = nI (10 ^ pcn (15 - sD S)) from (pw_n 10 _))) ?_
      refine lv_iload_n hx hb dX6_lost_137 rfl (lv_at hl 2 rfl) ?_
      refine g_cS (As := [.int (nI (loR nw nf fl (x3F 0 0 0) S v 16)), .int (nI (10 ^ pcn (15 - sD S))), .int (b2i up)]) (n := 3) (rest := []) (wc := []) (w1 := []) (bytes := cX6_fraction) (maxL := 4) (ret := (some .int)) hc hw hl.1 (m_X6_fraction (l := l) (D := D) (E := E) (T := T) (nI (loR nw nf fl (x3F 0 0 0) S v 16)) (10 ^ pcn (15 - sD S)) (loR nw nf fl (x3F 0 0 0) S v 16) up (if_pos (nI_le (Nat.zero_le _) (lr_lt hv))) (lr_lt hv) (Nat.pow_pos (by decide)) (Nat.lt_of_le_of_lt (p10_le (Nat.le_refl 10) (show pcn (15 - sD S) ≤ 4 by have := pcn_lt ((15 - sD S)) (by omega); omega)) (by decide))) gX6_lost_X6_fraction rfl (by decide +kernel) (by rw [hR]; exact ⟨Nat.le_of_ble_eq_true rfl, Nat.le_of_ble_eq_true rfl⟩) [] (by decide) rfl [] rfl rfl rfl rfl (Nat.le_of_ble_eq_true rfl) dX6_lost_138 ⟨Nat.zero_le _, Nat.zero_le _⟩ (fun H locs hw => ?_)
      have hw : g_W D A s [(o, .inr (6, [.int 0, u1, u2, .ref xa, .int (nI nw), .int (nI nf), .ref fa, u7, u8, u9, u10, .ref pa, .ref va, .ref ua, .ref ya, u15, u16, u17, u18, u19, u20, u21, u22, u23, u24, u25, u26, .ref wa, .ref la, .ref ta, .int (rS K1), .int (rN K1), .float (rH K1), .ref ma, u34, .ref sa])), (xa, .inl (E 0, 12, .inl (g_tv 0))), (fa, .inl (E 0, 18, .inl fl)), (wa, .inl (E 0, 3, .inl (rW K1))), (la, .inl (E 1, 4, .inr (.inr (.inl (rP K1))))), (ta, .inl (E 1, 4, .inr (.inr (.inl (rT K1))))), (ma, .inl (E 1, 3, .inr (.inr (.inl (rM K1))))), (sa, .inl (E 0, 9, .inl (g_tv 1))), (pa, .inl (E 0, 29, .inl (pgF S))), (va, .inl (E 1, 5, .inr (.inr (.inl (fl5 S))))), (ua, .inl (E 0, 29, .inl (pgF U1))), (ya, .inl (E 1, 5, .inr (.inr (.inl (fl5 U1)))))] H locs := hw
      exact g_iretE (K1, U1) hQ hc hw hr rfl rfl dX6_lost_141
    | succ k9 ih =>
      intro a h9 K1 U1  H locs ls hw hl
      have h9b : a < 16 := by omega
      refine lv_iload hx hb dX6_lost_44 (lv_at hl 6 rfl) ?_
      refine lv_bipush (v := 16) hx hb dX6_lost_46 (by decide) ?_
      refine lv_icmp_ge (tgt := 128) hx hb dX6_lost_48 (by decide) (fun c_48 => absurd c_48 (nI_ge h9b (by decide))) (fun c_48 => ?_)
      refine lv_iload hx hb dX6_lost_51 (lv_at hl 6 rfl) ?_
      refine lv_iload_n hx hb dX6_lost_53 rfl (lv_at hl 3 rfl) ?_
      refine lv_iconst (v := (-1)) hx hb dX6_lost_54 (by decide) ?_
      refine lv_ixor hx hb dX6_lost_55 ?_
      refine lv_iand hx hb dX6_lost_56 ?_
      refine lv_if_ne (tgt := 80) hx hb dX6_lost_57 (by decide) (fun c_57 => ?_) (fun c_57 => ?_)
      · skip
        have h57 : ¬ a &&& (15 - sD S) = a := fun q => c_57 ((sb16 a (by omega) (15 - sD S) (by omega)).mpr q)
        refine lv_iconst (v := 0) hx hb dX6_lost_80 (by decide) ?_
        refine lv_istore (lv' := [(7, .int 0), (0, .ref o), (1, .int (nI v)), (2, .int (b2i up)), (3, .int (nI (15 - sD S))), (4, .int (nI (pcn (15 - sD S)))), (5, .int (nI (loR nw nf fl (x3F 0 0 0) S v a))), (6, .int (nI a))]) hx hb dX6_lost_81 hl (by decide) rfl (fun ls hl => ?_)
        refine lv_iload hx hb dX6_lost_83 (lv_at hl 6 rfl) ?_
        refine lv_iload hx hb dX6_lost_85 (lv_at hl 0 rfl) ?_
        refine lv_if_eq (tgt := 118) hx hb dX6_lost_87 (by decide) (fun c_87 => ?_) (fun c_87 => absurd c_87 (by decide))
        refine lv_iconst (v := 0) hx hb dX6_lost_118 (by decide) ?_
        refine lv_iadd hx hb dX6_lost_119 ?_
        refine W.eq (congrArg (fun z => F0 m 120 ls (.int z :: [])) (show ((nI (loR nw nf fl (x3F 0 0 0) S v a)) + 0 : Int32) = nI (loR nw nf fl (x3F 0 0 0) S v a) from (Int32.add_zero _))) ?_
        refine lv_istore (lv' := [(5, .int (nI (loR nw nf fl (x3F 0 0 0) S v a))), (7, .int 0), (0, .ref o), (1, .int (nI v)), (2, .int (b2i up)), (3, .int (nI (15 - sD S))), (4, .int (nI (pcn (15 - sD S)))), (6, .int (nI a))]) hx hb dX6_lost_120 hl (by decide) rfl (fun ls hl => ?_)
        refine lv_iinc (v := nI (a + 1)) (lv' := [(6, .int (nI (a + 1))), (5, .int (nI (loR nw nf fl (x3F 0 0 0) S v a))), (7, .int 0), (0, .ref o), (1, .int (nI v)), (2, .int (b2i up)), (3, .int (nI (15 - sD S))), (4, .int (nI (pcn (15 - sD S))))]) hx hb dX6_lost_122 hl (k := 7) rfl (n_inc1 rfl) (by decide) rfl (fun ls hl => ?_)
        refine lv_goto (tgt := 44) hx hb dX6_lost_125 (by decide) ?_
        have hl := lv_conv hl 1 rfl (v' := (.int (nI (loR nw nf fl (x3F 0 0 0) S v (a + 1))))) (by exact congrArg (fun z => Value.int (nI z)) ((if_neg (fun q => h57 q.1)).symm))
        have hl : lv_has ls 8 [(6, .int (nI (a + 1))), (5, .int (nI (loR nw nf fl (x3F 0 0 0) S v (a + 1)))), (7, .int 0), (0, .ref o), (1, .int (nI v)), (2, .int (b2i up)), (3, .int (nI (15 - sD S))), (4, .int (nI (pcn (15 - sD S))))] := hl
        exact ih (a + 1) (by omega) K1 U1  _ _ _ hw (lv_sub hl [3, 4, 5, 6, 7, 1, 0] rfl)
      · skip
        have h57 : a &&& (15 - sD S) = a := (sb16 a (by omega) (15 - sD S) (by omega)).mp c_57
        have hpa := pcn_sub (sD S) hok.d a (by omega) h57
        refine lv_aload_n hx hb dX6_lost_60 rfl (lv_at hl 0 rfl) ?_
        refine lv_aload_n hx hb dX6_lost_61 rfl (lv_at hl 0 rfl) ?_
        refine g_get (TT := TX6) hc hw inX6_lost_X6 0 11 3 rfl rfl (by decide) rfl rfl dX6_lost_62 ?_
        refine lv_iconst (v := 0) hx hb dX6_lost_65 (by decide) ?_
        refine g_ild hc hw 8 0 rfl rfl (by omega) (by decide) dX6_lost_66 ?_
        refine W.eq (congrArg (fun z => F0 m 67 ls (.int z :: [.ref o])) (show ((pgF S) 0 : Int32) = nI (sD S) from rfl)) ?_
        refine lv_iload hx hb dX6_lost_67 (lv_at hl 6 rfl) ?_
        refine lv_ior hx hb dX6_lost_69 ?_
        refine W.eq (congrArg (fun z => F0 m 70 ls (.int z :: [.ref o])) (show ((nI (sD S)) ||| (nI a) : Int32) = nI (sD S ||| a) from (or16 _ hok.d _ (by omega)))) ?_
        refine g_cEV (As := [.int (nI (sD S ||| a))]) (n := 1) (rest := []) (wc := [(o, .inr (6, [.int 0, u1, u2, .ref xa, .int (nI nw), .int (nI nf), .ref fa, u7, u8, u9, u10, .ref pa, .ref va, .ref ua, .ref ya, u15, u16, u17, u18, u19, u20, u21, u22, u23, u24, u25, u26, .ref wa, .ref la, .ref ta, .int (rS K1), .int (rN K1), .float (rH K1), .ref ma, u34, .ref sa])), (xa, .inl (E 0, 12, .inl (g_tv 0))), (fa, .inl (E 0, 18, .inl fl)), (wa, .inl (E 0, 3, .inl (rW K1))), (la, .inl (E 1, 4, .inr (.inr (.inl (rP K1))))), (ta, .inl (E 1, 4, .inr (.inr (.inl (rT K1))))), (ma, .inl (E 1, 3, .inr (.inr (.inl (rM K1))))), (sa, .inl (E 0, 9, .inl (g_tv 1))), (pa, .inl (E 0, 29, .inl (pgF S))), (va, .inl (E 1, 5, .inr (.inr (.inl (fl5 S))))), (ua, .inl (E 0, 29, .inl (pgF U1))), (ya, .inl (E 1, 5, .inr (.inr (.inl (fl5 U1)))))]) (w1 := (fun (K1 : RJ) => [(o, .inr (6, [.int 0, u1, u2, .ref xa, .int (nI nw), .int (nI nf), .ref fa, u7, u8, u9, u10, .ref pa, .ref va, .ref ua, .ref ya, u15, u16, u17, u18, u19, u20, u21, u22, u23, u24, u25, u26, .ref wa, .ref la, .ref ta, .int (rS K1), .int (rN K1), .float (rH K1), .ref ma, u34, .ref sa])), (xa, .inl (E 0, 12, .inl (g_tv 0))), (fa, .inl (E 0, 18, .inl fl)), (wa, .inl (E 0, 3, .inl (rW K1))), (la, .inl (E 1, 4, .inr (.inr (.inl (rP K1))))), (ta, .inl (E 1, 4, .inr (.inr (.inl (rT K1))))), (ma, .inl (E 1, 3, .inr (.inr (.inl (rM K1))))), (sa, .inl (E 0, 9, .inl (g_tv 1))), (pa, .inl (E 0, 29, .inl (pgF S))), (va, .inl (E 1, 5, .inr (.inr (.inl (fl5 S))))), (ua, .inl (E 0, 29, .inl (pgF (tkN nw nf fl (x3F 0 0 0) (dvS S (sD S ||| a)) 20)))), (ya, .inl (E 1, 5, .inr (.inr (.inl (fl5 (tkN nw nf fl (x3F 0 0 0) (dvS S (sD S ||| a)) 20))))))])) (bytes := cX6_badBy) (maxL := 2) (ret := (some .int)) hc hw hl.1 (m_X6_badBy_x (l := l) (D := D) (E := E) (T := T) o xa fa wa la ta ma sa nw nf pa va ua ya B (.int 0) u1 u2 u7 u8 u9 u10 u15 u16 u17 u18 u19 u20 u21 u22 u23 u24 u25 u26 u34 fl S U1 K1 (sD S ||| a) hok (by first | assumption | omega | decide) (by first | assumption | omega | decide) (by first | assumption | omega | decide) (or_lt _ hok.d _ (by omega))) gX6_lost_X6_badBy rfl (by decide +kernel) (by rw [hR]; exact ⟨Nat.le_of_ble_eq_true rfl, Nat.le_of_ble_eq_true rfl⟩) [0, 1, 2, 3, 4, 5, 6, 7, 8, 9, 10, 11] 0 6 rfl rfl (by decide) rfl [o, xa, fa, wa, la, ta, ma, sa, pa, va, ua, ya] (fun _ => rfl) rfl rfl rfl (Nat.le_of_ble_eq_true rfl) dX6_lost_70 ⟨Nat.zero_le _, Nat.zero_le _⟩ (fun u_1 H locs hw => ?_)
        obtain ⟨K1_u_1, rfl⟩ : ∃ z, z = u_1 := ⟨_, rfl⟩
        have hw : g_W D A s [(o, .inr (6, [.int 0, u1, u2, .ref xa, .int (nI nw), .int (nI nf), .ref fa, u7, u8, u9, u10, .ref pa, .ref va, .ref ua, .ref ya, u15, u16, u17, u18, u19, u20, u21, u22, u23, u24, u25, u26, .ref wa, .ref la, .ref ta, .int (rS K1_u_1), .int (rN K1_u_1), .float (rH K1_u_1), .ref ma, u34, .ref sa])), (xa, .inl (E 0, 12, .inl (g_tv 0))), (fa, .inl (E 0, 18, .inl fl)), (wa, .inl (E 0, 3, .inl (rW K1_u_1))), (la, .inl (E 1, 4, .inr (.inr (.inl (rP K1_u_1))))), (ta, .inl (E 1, 4, .inr (.inr (.inl (rT K1_u_1))))), (ma, .inl (E 1, 3, .inr (.inr (.inl (rM K1_u_1))))), (sa, .inl (E 0, 9, .inl (g_tv 1))), (pa, .inl (E 0, 29, .inl (pgF S))), (va, .inl (E 1, 5, .inr (.inr (.inl (fl5 S))))), (ua, .inl (E 0, 29, .inl (pgF (tkN nw nf fl (x3F 0 0 0) (dvS S (sD S ||| a)) 20)))), (ya, .inl (E 1, 5, .inr (.inr (.inl (fl5 (tkN nw nf fl (x3F 0 0 0) (dvS S (sD S ||| a)) 20))))))] H locs := hw
        refine lv_if_ne (tgt := 80) hx hb dX6_lost_73 (by decide) (fun c_73 => ?_) (fun c_73 => ?_)
        · skip
          refine lv_iconst (v := 0) hx hb dX6_lost_80 (by decide) ?_
          refine lv_istore (lv' := [(7, .int 0), (0, .ref o), (1, .int (nI v)), (2, .int (b2i up)), (3, .int (nI (15 - sD S))), (4, .int (nI (pcn (15 - sD S)))), (5, .int (nI (loR nw nf fl (x3F 0 0 0) S v a))), (6, .int (nI a))]) hx hb dX6_lost_81 hl (by decide) rfl (fun ls hl => ?_)
          refine lv_iload hx hb dX6_lost_83 (lv_at hl 6 rfl) ?_
          refine lv_iload hx hb dX6_lost_85 (lv_at hl 0 rfl) ?_
          refine lv_if_eq (tgt := 118) hx hb dX6_lost_87 (by decide) (fun c_87 => ?_) (fun c_87 => absurd c_87 (by decide))
          refine lv_iconst (v := 0) hx hb dX6_lost_118 (by decide) ?_
          refine lv_iadd hx hb dX6_lost_119 ?_
          refine W.eq (congrArg (fun z => F0 m 120 ls (.int z :: [])) (show ((nI (loR nw nf fl (x3F 0 0 0) S v a)) + 0 : Int32) = nI (loR nw nf fl (x3F 0 0 0) S v a) from (Int32.add_zero _))) ?_
          refine lv_istore (lv' := [(5, .int (nI (loR nw nf fl (x3F 0 0 0) S v a))), (7, .int 0), (0, .ref o), (1, .int (nI v)), (2, .int (b2i up)), (3, .int (nI (15 - sD S))), (4, .int (nI (pcn (15 - sD S)))), (6, .int (nI a))]) hx hb dX6_lost_120 hl (by decide) rfl (fun ls hl => ?_)
          refine lv_iinc (v := nI (a + 1)) (lv' := [(6, .int (nI (a + 1))), (5, .int (nI (loR nw nf fl (x3F 0 0 0) S v a))), (7, .int 0), (0, .ref o), (1, .int (nI v)), (2, .int (b2i up)), (3, .int (nI (15 - sD S))), (4, .int (nI (pcn (15 - sD S))))]) hx hb dX6_lost_122 hl (k := 7) rfl (n_inc1 rfl) (by decide) rfl (fun ls hl => ?_)
          refine lv_goto (tgt := 44) hx hb dX6_lost_125 (by decide) ?_
          have hl := lv_conv hl 1 rfl (v' := (.int (nI (loR nw nf fl (x3F 0 0 0) S v (a + 1))))) (by exact congrArg (fun z => Value.int (nI z)) ((if_neg (fun q => c_73 q.2)).symm))
          have hl : lv_has ls 8 [(6, .int (nI (a + 1))), (5, .int (nI (loR nw nf fl (x3F 0 0 0) S v (a + 1)))), (7, .int 0), (0, .ref o), (1, .int (nI v)), (2, .int (b2i up)), (3, .int (nI (15 - sD S))), (4, .int (nI (pcn (15 - sD S))))] := hl
          exact ih (a + 1) (by omega) K1_u_1 (tkN nw nf fl (x3F 0 0 0) (dvS S (sD S ||| a)) 20)  _ _ _ hw (lv_sub hl [3, 4, 5, 6, 7, 1, 0] rfl)
        · skip
          refine lv_iconst (v := 1) hx hb dX6_lost_76 (by decide) ?_
          refine lv_goto (tgt := 81) hx hb dX6_lost_77 (by decide) ?_
          refine lv_istore (lv' := [(7, .int 1), (0, .ref o), (1, .int (nI v)), (2, .int (b2i up)), (3, .int (nI (15 - sD S))), (4, .int (nI (pcn (15 - sD S)))), (5, .int (nI (loR nw nf fl (x3F 0 0 0) S v a))), (6, .int (nI a))]) hx hb dX6_lost_81 hl (by decide) rfl (fun ls hl => ?_)
          refine lv_iload hx hb dX6_lost_83 (lv_at hl 6 rfl) ?_
          refine lv_iload hx hb dX6_lost_85 (lv_at hl 0 rfl) ?_
          refine lv_if_eq (tgt := 118) hx hb dX6_lost_87 (by decide) (fun c_87 => absurd c_87 (by decide)) (fun c_87 => ?_)
          refine lv_iload_n hx hb dX6_lost_90 rfl (lv_at hl 2 rfl) ?_
          refine lv_iload hx hb dX6_lost_91 (lv_at hl 7 rfl) ?_
          refine g_cS (As := [.int (nI a)]) (n := 1) (rest := [.int (nI v), .int (nI (loR nw nf fl (x3F 0 0 0) S v a))]) (wc := []) (w1 := []) (bytes := cX6_ones) (maxL := 3) (ret := (some .int)) hc hw hl.1 (m_X6_ones (l := l) (D := D) (E := E) (T := T) a (by omega)) gX6_lost_X6_ones rfl (by decide +kernel) (by rw [hR]; exact ⟨Nat.le_of_ble_eq_true rfl, Nat.le_of_ble_eq_true rfl⟩) [] (by decide) rfl [] rfl rfl rfl rfl (Nat.le_of_ble_eq_true rfl) dX6_lost_93 ⟨Nat.zero_le _, Nat.zero_le _⟩ (fun H locs hw => ?_)
          have hw : g_W D A s [(o, .inr (6, [.int 0, u1, u2, .ref xa, .int (nI nw), .int (nI nf), .ref fa, u7, u8, u9, u10, .ref pa, .ref va, .ref ua, .ref ya, u15, u16, u17, u18, u19, u20, u21, u22, u23, u24, u25, u26, .ref wa, .ref la, .ref ta, .int (rS K1_u_1), .int (rN K1_u_1), .float (rH K1_u_1), .ref ma, u34, .ref sa])), (xa, .inl (E 0, 12, .inl (g_tv 0))), (fa, .inl (E 0, 18, .inl fl)), (wa, .inl (E 0, 3, .inl (rW K1_u_1))), (la, .inl (E 1, 4, .inr (.inr (.inl (rP K1_u_1))))), (ta, .inl (E 1, 4, .inr (.inr (.inl (rT K1_u_1))))), (ma, .inl (E 1, 3, .inr (.inr (.inl (rM K1_u_1))))), (sa, .inl (E 0, 9, .inl (g_tv 1))), (pa, .inl (E 0, 29, .inl (pgF S))), (va, .inl (E 1, 5, .inr (.inr (.inl (fl5 S))))), (ua, .inl (E 0, 29, .inl (pgF (tkN nw nf fl (x3F 0 0 0) (dvS S (sD S ||| a)) 20)))), (ya, .inl (E 1, 5, .inr (.inr (.inl (fl5 (tkN nw nf fl (x3F 0 0 0) (dvS S (sD S ||| a)) 20))))))] H locs := hw
          refine g_cS (As := [.int (nI v), .int (nI (pcn a))]) (n := 2) (rest := [.int (nI (loR nw nf fl (x3F 0 0 0) S v a))]) (wc := []) (w1 := []) (bytes := cX6_power) (maxL := 4) (ret := (some .int)) hc hw hl.1 (m_X6_power (l := l) (D := D) (E := E) (T := T) (nI v) (pcn a) (by have := pcn_lt (a) (by omega); omega)) gX6_lost_X6_power rfl (by decide +kernel) (by rw [hR]; exact ⟨Nat.le_of_ble_eq_true rfl, Nat.le_of_ble_eq_true rfl⟩) [] (by decide) rfl [] rfl rfl rfl rfl (Nat.le_of_ble_eq_true rfl) dX6_lost_96 ⟨Nat.zero_le _, Nat.zero_le _⟩ (fun H locs hw => ?_)
          have hw : g_W D A s [(o, .inr (6, [.int 0, u1, u2, .ref xa, .int (nI nw), .int (nI nf), .ref fa, u7, u8, u9, u10, .ref pa, .ref va, .ref ua, .ref ya, u15, u16, u17, u18, u19, u20, u21, u22, u23, u24, u25, u26, .ref wa, .ref la, .ref ta, .int (rS K1_u_1), .int (rN K1_u_1), .float (rH K1_u_1), .ref ma, u34, .ref sa])), (xa, .inl (E 0, 12, .inl (g_tv 0))), (fa, .inl (E 0, 18, .inl fl)), (wa, .inl (E 0, 3, .inl (rW K1_u_1))), (la, .inl (E 1, 4, .inr (.inr (.inl (rP K1_u_1))))), (ta, .inl (E 1, 4, .inr (.inr (.inl (rT K1_u_1))))), (ma, .inl (E 1, 3, .inr (.inr (.inl (rM K1_u_1))))), (sa, .inl (E 0, 9, .inl (g_tv 1))), (pa, .inl (E 0, 29, .inl (pgF S))), (va, .inl (E 1, 5, .inr (.inr (.inl (fl5 S))))), (ua, .inl (E 0, 29, .inl (pgF (tkN nw nf fl (x3F 0 0 0) (dvS S (sD S ||| a)) 20)))), (ya, .inl (E 1, 5, .inr (.inr (.inl (fl5 (tkN nw nf fl (x3F 0 0 0) (dvS S (sD S ||| a)) 20))))))] H locs := hw
          refine W.eq (congrArg (fun z => F0 m 99 ls (.int z :: [.int (nI (loR nw nf fl (x3F 0 0 0) S v a))])) (show (pwF (nI v) (pcn a) : Int32) = nI (v ^ pcn a) from (pw_n v _))) ?_
          refine lv_bipush (v := 10) hx hb dX6_lost_99 (by decide) ?_
          refine lv_iload_n hx hb dX6_lost_101 rfl (lv_at hl 2 rfl) ?_
          refine lv_isub hx hb dX6_lost_102 ?_
          refine lv_iload hx hb dX6_lost_103 (lv_at hl 5 rfl) ?_
          refine lv_iload hx hb dX6_lost_105 (lv_at hl 7 rfl) ?_
          refine g_cS (As := [.int (nI a)]) (n := 1) (rest := [.int (nI (pcn (15 - sD S))), .int (10 - (nI v)), .int (nI (v ^ pcn a)), .int (nI (loR nw nf fl (x3F 0 0 0) S v a))]) (wc := []) (w1 := []) (bytes := cX6_ones) (maxL := 3) (ret := (some .int)) hc hw hl.1 (m_X6_ones (l := l) (D := D) (E := E) (T := T) a (by omega)) gX6_lost_X6_ones rfl (by decide +kernel) (by rw [hR]; exact ⟨Nat.le_of_ble_eq_true rfl, Nat.le_of_ble_eq_true rfl⟩) [] (by decide) rfl [] rfl rfl rfl rfl (Nat.le_of_ble_eq_true rfl) dX6_lost_107 ⟨Nat.zero_le _, Nat.zero_le _⟩ (fun H locs hw => ?_)
          have hw : g_W D A s [(o, .inr (6, [.int 0, u1, u2, .ref xa, .int (nI nw), .int (nI nf), .ref fa, u7, u8, u9, u10, .ref pa, .ref va, .ref ua, .ref ya, u15, u16, u17, u18, u19, u20, u21, u22, u23, u24, u25, u26, .ref wa, .ref la, .ref ta, .int (rS K1_u_1), .int (rN K1_u_1), .float (rH K1_u_1), .ref ma, u34, .ref sa])), (xa, .inl (E 0, 12, .inl (g_tv 0))), (fa, .inl (E 0, 18, .inl fl)), (wa, .inl (E 0, 3, .inl (rW K1_u_1))), (la, .inl (E 1, 4, .inr (.inr (.inl (rP K1_u_1))))), (ta, .inl (E 1, 4, .inr (.inr (.inl (rT K1_u_1))))), (ma, .inl (E 1, 3, .inr (.inr (.inl (rM K1_u_1))))), (sa, .inl (E 0, 9, .inl (g_tv 1))), (pa, .inl (E 0, 29, .inl (pgF S))), (va, .inl (E 1, 5, .inr (.inr (.inl (fl5 S))))), (ua, .inl (E 0, 29, .inl (pgF (tkN nw nf fl (x3F 0 0 0) (dvS S (sD S ||| a)) 20)))), (ya, .inl (E 1, 5, .inr (.inr (.inl (fl5 (tkN nw nf fl (x3F 0 0 0) (dvS S (sD S ||| a)) 20))))))] H locs := hw
          refine lv_isub hx hb dX6_lost_110 ?_
          refine W.eq (congrArg (fun z => F0 m 111 ls (.int z :: [.int (10 - (nI v)), .int (nI (v ^ pcn a)), .int (nI (loR nw nf fl (x3F 0 0 0) S v a))])) (show ((nI (pcn (15 - sD S))) - (nI (pcn a)) : Int32) = nI (pcn (15 - sD S) - pcn a) from (n_sub rfl rfl hpa))) ?_
          refine g_cS (As := [.int (10 - (nI v)), .int (nI (pcn (15 - sD S) - pcn a))]) (n := 2) (rest := [.int (nI (v ^ pcn a)), .int (nI (loR nw nf fl (x3F 0 0 0) S v a))]) (wc := []) (w1 := []) (bytes := cX6_power) (maxL := 4) (ret := (some .int)) hc hw hl.1 (m_X6_power (l := l) (D := D) (E := E) (T := T) (10 - (nI v)) (pcn (15 - sD S) - pcn a) (by have := pcn_lt ((15 - sD S)) (by omega); omega)) gX6_lost_X6_power rfl (by decide +kernel) (by rw [hR]; exact ⟨Nat.le_of_ble_eq_true rfl, Nat.le_of_ble_eq_true rfl⟩) [] (by decide) rfl [] rfl rfl rfl rfl (Nat.le_of_ble_eq_true rfl) dX6_lost_111 ⟨Nat.zero_le _, Nat.zero_le _⟩ (fun H locs hw => ?_)
          have hw : g_W D A s [(o, .inr (6, [.int 0, u1, u2, .ref xa, .int (nI nw), .int (nI nf), .ref fa, u7, u8, u9, u10, .ref pa, .ref va, .ref ua, .ref ya, u15, u16, u17, u18, u19, u20, u21, u22, u23, u24, u25, u26, .ref wa, .ref la, .ref ta, .int (rS K1_u_1), .int (rN K1_u_1), .float (rH K1_u_1), .ref ma, u34, .ref sa])), (xa, .inl (E 0, 12, .inl (g_tv 0))), (fa, .inl (E 0, 18, .inl fl)), (wa, .inl (E 0, 3, .inl (rW K1_u_1))), (la, .inl (E 1, 4, .inr (.inr (.inl (rP K1_u_1))))), (ta, .inl (E 1, 4, .inr (.inr (.inl (rT K1_u_1))))), (ma, .inl (E 1, 3, .inr (.inr (.inl (rM K1_u_1))))), (sa, .inl (E 0, 9, .inl (g_tv 1))), (pa, .inl (E 0, 29, .inl (pgF S))), (va, .inl (E 1, 5, .inr (.inr (.inl (fl5 S))))), (ua, .inl (E 0, 29, .inl (pgF (tkN nw nf fl (x3F 0 0 0) (dvS S (sD S ||| a)) 20)))), (ya, .inl (E 1, 5, .inr (.inr (.inl (fl5 (tkN nw nf fl (x3F 0 0 0) (dvS S (sD S ||| a)) 20))))))] H locs := hw
          refine W.eq (congrArg (fun z => F0 m 114 ls (.int z :: [.int (nI (v ^ pcn a)), .int (nI (loR nw nf fl (x3F 0 0 0) S v a))])) (show (pwF (10 - (nI v)) (pcn (15 - sD S) - pcn a) : Int32) = nI ((10 - v) ^ (pcn (15 - sD S) - pcn a)) from (by rw [show (10 : Int32) - nI v = nI (10 - v) from n_sub (a := 10) rfl rfl (by omega), pw_n]))) ?_
          refine lv_imul hx hb dX6_lost_114 ?_
          refine lv_goto (tgt := 119) hx hb dX6_lost_115 (by decide) ?_
          refine lv_iadd hx hb dX6_lost_119 ?_
          refine W.eq (congrArg (fun z => F0 m 120 ls (.int z :: [])) (show ((nI (loR nw nf fl (x3F 0 0 0) S v a)) + ((nI (v ^ pcn a)) * (nI ((10 - v) ^ (pcn (15 - sD S) - pcn a)))) : Int32) = nI (loR nw nf fl (x3F 0 0 0) S v a + v ^ pcn a * (10 - v) ^ (pcn (15 - sD S) - pcn a)) from (n_add rfl (n_mul rfl rfl)))) ?_
          refine lv_istore (lv' := [(5, .int (nI (loR nw nf fl (x3F 0 0 0) S v a + v ^ pcn a * (10 - v) ^ (pcn (15 - sD S) - pcn a)))), (7, .int 1), (0, .ref o), (1, .int (nI v)), (2, .int (b2i up)), (3, .int (nI (15 - sD S))), (4, .int (nI (pcn (15 - sD S)))), (6, .int (nI a))]) hx hb dX6_lost_120 hl (by decide) rfl (fun ls hl => ?_)
          refine lv_iinc (v := nI (a + 1)) (lv' := [(6, .int (nI (a + 1))), (5, .int (nI (loR nw nf fl (x3F 0 0 0) S v a + v ^ pcn a * (10 - v) ^ (pcn (15 - sD S) - pcn a)))), (7, .int 1), (0, .ref o), (1, .int (nI v)), (2, .int (b2i up)), (3, .int (nI (15 - sD S))), (4, .int (nI (pcn (15 - sD S))))]) hx hb dX6_lost_122 hl (k := 7) rfl (n_inc1 rfl) (by decide) rfl (fun ls hl => ?_)
          refine lv_goto (tgt := 44) hx hb dX6_lost_125 (by decide) ?_
          have hl := lv_conv hl 1 rfl (v' := (.int (nI (loR nw nf fl (x3F 0 0 0) S v (a + 1))))) (by exact congrArg (fun z => Value.int (nI z)) ((if_pos ⟨h57, c_73⟩).symm))
          have hl : lv_has ls 8 [(6, .int (nI (a + 1))), (5, .int (nI (loR nw nf fl (x3F 0 0 0) S v (a + 1)))), (7, .int 1), (0, .ref o), (1, .int (nI v)), (2, .int (b2i up)), (3, .int (nI (15 - sD S))), (4, .int (nI (pcn (15 - sD S))))] := hl
          exact ih (a + 1) (by omega) K1_u_1 (tkN nw nf fl (x3F 0 0 0) (dvS S (sD S ||| a)) 20)  _ _ _ hw (lv_sub hl [3, 4, 5, 6, 7, 1, 0] rfl)
  have hl := lv_conv hl 1 rfl (v' := (.int (nI (loR nw nf fl (x3F 0 0 0) S v 0)))) (by rfl)
  have hl : lv_has ls 8 [(6, .int 0), (5, .int (nI (loR nw nf fl (x3F 0 0 0) S v 0))), (4, .int (nI (pcn (15 - sD S)))), (3, .int (nI (15 - sD S))), (0, .ref o), (1, .int (nI v)), (2, .int (b2i up))] := hl
  exact J44 16 0 (by omega) K U  _ _ _ hw (lv_sub hl [4, 5, 6, 3, 2, 1, 0] rfl)

theorem dX6_drawn_0 : decode cX6_drawn 0 = .ok (.aload_n 0, 1) := by decide +kernel
theorem dX6_drawn_1 : decode cX6_drawn 1 = .ok (.iconst 0, 1) := by decide +kernel
theorem dX6_drawn_2 : decode cX6_drawn 2 = .ok (.putfield 88, 3) := by decide +kernel
theorem dX6_drawn_5 : decode cX6_drawn 5 = .ok (.iload_n 1, 1) := by decide +kernel
theorem dX6_drawn_6 : decode cX6_drawn 6 = .ok (.i2l, 1) := by decide +kernel
theorem dX6_drawn_7 : decode cX6_drawn 7 = .ok (.lconst 1, 1) := by decide +kernel
theorem dX6_drawn_8 : decode cX6_drawn 8 = .ok (.ldc2_w 295, 3) := by decide +kernel
theorem dX6_drawn_11 : decode cX6_drawn 11 = .ok (.invokestatic 94, 3) := by decide +kernel
theorem dX6_drawn_14 : decode cX6_drawn 14 = .ok (.ifCond .ne 6, 3) := by decide +kernel
theorem dX6_drawn_17 : decode cX6_drawn 17 = .ok (.bipush (-2), 2) := by decide +kernel
theorem dX6_drawn_19 : decode cX6_drawn 19 = .ok (.ireturn, 1) := by decide +kernel
set_option maxRecDepth 20000 in
theorem ggX6_drawn_X6_in : GoodIn wsX6_drawn wsX6_in := goodIn_r _ [11] rfl (by decide +kernel)
set_option maxRecDepth 20000 in
theorem gX6_drawn_X6_in : GoodIn wsX6_drawn (va_wsS RX6 94 yX6_in wsX6_in) := goodIn_app (goodIn_of _ (by decide +kernel)) ggX6_drawn_X6_in
theorem inX6_drawn_X6 : ∀ w ∈ u_ws RX6 TX6 36, w ∈ wsX6_drawn := fun w h => List.mem_cons_of_mem _ (List.mem_append_right _ h)
set_option maxRecDepth 100000 in
set_option maxHeartbeats 4000000 in
theorem m_X6_drawn_out {l : Launch} {D : va_G} {E : Nat → ClassId} {T : Nat → Nat} (o : Nat) (u0 : Value) (u1 : Value) (u2 : Value) (u3 : Value) (u4 : Value) (u5 : Value) (u6 : Value) (u7 : Value) (u8 : Value) (u9 : Value) (u10 : Value) (u11 : Value) (u12 : Value) (u13 : Value) (u14 : Value) (u15 : Value) (u16 : Value) (u17 : Value) (u18 : Value) (u19 : Value) (u20 : Value) (u21 : Value) (u22 : Value) (u23 : Value) (u24 : Value) (u25 : Value) (u26 : Value) (u27 : Value) (u28 : Value) (u29 : Value) (u30 : Value) (u31 : Value) (u32 : Value) (u33 : Value) (u34 : Value) (u35 : Value) (v : Int32) (ho : outB v 1 20 = true) : g_M l D E T yX6_drawn wsX6_drawn 1 25 [.ref o, .int v] [(o, .inr (6, [u0, u1, u2, u3, u4, u5, u6, u7, u8, u9, u10, u11, u12, u13, u14, u15, u16, u17, u18, u19, u20, u21, u22, u23, u24, u25, u26, u27, u28, u29, u30, u31, u32, u33, u34, u35]))] [(o, .inr (6, [.int 0, u1, u2, u3, u4, u5, u6, u7, u8, u9, u10, u11, u12, u13, u14, u15, u16, u17, u18, u19, u20, u21, u22, u23, u24, u25, u26, u27, u28, u29, u30, u31, u32, u33, u34, u35]))] (some (.int (-2))) := by
  refine g_M.of (cc := cX6_drawn) (nL := 5) (ret := (some .int)) (own := RX6) (lv := [(0, .ref o), (1, .int v)]) (by decide) rfl rfl (Nat.le_of_ble_eq_true rfl) rfl ?_
  intro p e R s m args below meth c A Q H locs ls hR hQ hc hr hw hl
  have hx := hc.1
  have hb := hc.2.1
  have hts := hc.2.2.2.1
  have hown := hc.2.2.2.2.1
  refine lv_aload_n hx hb dX6_drawn_0 rfl (lv_at hl 0 rfl) ?_
  refine lv_iconst (v := 0) hx hb dX6_drawn_1 (by decide) ?_
  refine g_put (TT := TX6) hc hw inX6_drawn_X6 tyX6 tyX6_ok nmX6 0 0 1 rfl rfl (by decide) rfl rfl rfl rfl (Nat.le_of_ble_eq_true rfl) dX6_drawn_2 (fun H locs hw => ?_)
  have hw : g_W D A s [(o, .inr (6, [.int 0, u1, u2, u3, u4, u5, u6, u7, u8, u9, u10, u11, u12, u13, u14, u15, u16, u17, u18, u19, u20, u21, u22, u23, u24, u25, u26, u27, u28, u29, u30, u31, u32, u33, u34, u35]))] H locs := hw
  refine lv_iload_n hx hb dX6_drawn_5 rfl (lv_at hl 1 rfl) ?_
  refine lv_i2l hx hb dX6_drawn_6 rfl ?_
  refine lv_lconst (v := 1) hx hb dX6_drawn_7 (by decide) ?_
  refine lv_ldc2 (v := 20) hx hb hown (hts _ (List.mem_of_getElem? (i := 2) rfl)) dX6_drawn_8 ?_
  refine g_cS (As := [.long v.toInt64, .long 1, .long 20]) (n := 3) (rest := []) (wc := []) (w1 := []) (bytes := cX6_in) (maxL := 6) (ret := (some .boolean)) hc hw hl.1 (m_X6_in (l := l) (D := D) (E := E) (T := T) v.toInt64 1 20) gX6_drawn_X6_in rfl (by decide +kernel) (by rw [hR]; exact ⟨Nat.le_of_ble_eq_true rfl, Nat.le_of_ble_eq_true rfl⟩) [] (by decide) rfl [] rfl rfl rfl rfl (Nat.le_of_ble_eq_true rfl) dX6_drawn_11 ⟨Nat.zero_le _, Nat.zero_le _⟩ (fun H locs hw => ?_)
  have hw : g_W D A s [(o, .inr (6, [.int 0, u1, u2, u3, u4, u5, u6, u7, u8, u9, u10, u11, u12, u13, u14, u15, u16, u17, u18, u19, u20, u21, u22, u23, u24, u25, u26, u27, u28, u29, u30, u31, u32, u33, u34, u35]))] H locs := hw
  refine W.eq (congrArg (fun z => F0 m 14 ls (.int z :: [])) (show (b2i (inL v.toInt64 1 20) : Int32) = 0 from (congrArg b2i (in_o (a := 1) (b := 20) ho (by decide) (by decide))))) ?_
  refine lv_if_ne (tgt := 20) hx hb dX6_drawn_14 (by decide) (fun c_14 => absurd c_14 (by decide)) (fun c_14 => ?_)
  refine lv_bipush (v := (-2)) hx hb dX6_drawn_17 (by decide) ?_
  exact g_iret hQ hc hw hr rfl rfl dX6_drawn_19

theorem dX6_drawn_20 : decode cX6_drawn 20 = .ok (.aload_n 0, 1) := by decide +kernel
theorem dX6_drawn_21 : decode cX6_drawn 21 = .ok (.invokevirtual 248, 3) := by decide +kernel
theorem dX6_drawn_24 : decode cX6_drawn 24 = .ok (.aload_n 0, 1) := by decide +kernel
theorem dX6_drawn_25 : decode cX6_drawn 25 = .ok (.getfield 32, 3) := by decide +kernel
theorem dX6_drawn_28 : decode cX6_drawn 28 = .ok (.iconst 2, 1) := by decide +kernel
theorem dX6_drawn_29 : decode cX6_drawn 29 = .ok (.iaload, 1) := by decide +kernel
theorem dX6_drawn_30 : decode cX6_drawn 30 = .ok (.aload_n 0, 1) := by decide +kernel
theorem dX6_drawn_31 : decode cX6_drawn 31 = .ok (.getfield 32, 3) := by decide +kernel
theorem dX6_drawn_34 : decode cX6_drawn 34 = .ok (.iconst 4, 1) := by decide +kernel
theorem dX6_drawn_35 : decode cX6_drawn 35 = .ok (.iaload, 1) := by decide +kernel
theorem dX6_drawn_36 : decode cX6_drawn 36 = .ok (.iadd, 1) := by decide +kernel
theorem dX6_drawn_37 : decode cX6_drawn 37 = .ok (.istore_n 2, 1) := by decide +kernel
theorem dX6_drawn_38 : decode cX6_drawn 38 = .ok (.iconst 0, 1) := by decide +kernel
theorem dX6_drawn_39 : decode cX6_drawn 39 = .ok (.istore_n 3, 1) := by decide +kernel
theorem dX6_drawn_40 : decode cX6_drawn 40 = .ok (.iload_n 3, 1) := by decide +kernel
theorem dX6_drawn_41 : decode cX6_drawn 41 = .ok (.iload_n 1, 1) := by decide +kernel
theorem dX6_drawn_42 : decode cX6_drawn 42 = .ok (.if_icmp .ge 74, 3) := by decide +kernel
theorem dX6_drawn_45 : decode cX6_drawn 45 = .ok (.aload_n 0, 1) := by decide +kernel
theorem dX6_drawn_46 : decode cX6_drawn 46 = .ok (.aload_n 0, 1) := by decide +kernel
theorem dX6_drawn_47 : decode cX6_drawn 47 = .ok (.getfield 291, 3) := by decide +kernel
theorem dX6_drawn_50 : decode cX6_drawn 50 = .ok (.ldc2_w 297, 3) := by decide +kernel
theorem dX6_drawn_53 : decode cX6_drawn 53 = .ok (.lmul, 1) := by decide +kernel
theorem dX6_drawn_54 : decode cX6_drawn 54 = .ok (.ldc2_w 299, 3) := by decide +kernel
theorem dX6_drawn_57 : decode cX6_drawn 57 = .ok (.ladd, 1) := by decide +kernel
theorem dX6_drawn_58 : decode cX6_drawn 58 = .ok (.putfield 291, 3) := by decide +kernel
theorem dX6_drawn_61 : decode cX6_drawn 61 = .ok (.aload_n 0, 1) := by decide +kernel
theorem dX6_drawn_62 : decode cX6_drawn 62 = .ok (.getfield 291, 3) := by decide +kernel
theorem dX6_drawn_65 : decode cX6_drawn 65 = .ok (.bipush 33, 2) := by decide +kernel
theorem dX6_drawn_67 : decode cX6_drawn 67 = .ok (.lushr, 1) := by decide +kernel
theorem dX6_drawn_68 : decode cX6_drawn 68 = .ok (.l2i, 1) := by decide +kernel
theorem dX6_drawn_69 : decode cX6_drawn 69 = .ok (.istore 4, 2) := by decide +kernel
theorem dX6_drawn_71 : decode cX6_drawn 71 = .ok (.aload_n 0, 1) := by decide +kernel
theorem dX6_drawn_72 : decode cX6_drawn 72 = .ok (.aload_n 0, 1) := by decide +kernel
theorem dX6_drawn_73 : decode cX6_drawn 73 = .ok (.getfield 32, 3) := by decide +kernel
theorem dX6_drawn_76 : decode cX6_drawn 76 = .ok (.aload_n 0, 1) := by decide +kernel
theorem dX6_drawn_77 : decode cX6_drawn 77 = .ok (.getfield 35, 3) := by decide +kernel
theorem dX6_drawn_80 : decode cX6_drawn 80 = .ok (.iload 4, 2) := by decide +kernel
theorem dX6_drawn_82 : decode cX6_drawn 82 = .ok (.bipush 7, 2) := by decide +kernel
theorem dX6_drawn_84 : decode cX6_drawn 84 = .ok (.irem, 1) := by decide +kernel
theorem dX6_drawn_85 : decode cX6_drawn 85 = .ok (.iconst 3, 1) := by decide +kernel
theorem dX6_drawn_86 : decode cX6_drawn 86 = .ok (.isub, 1) := by decide +kernel
theorem dX6_drawn_87 : decode cX6_drawn 87 = .ok (.iload 4, 2) := by decide +kernel
theorem dX6_drawn_89 : decode cX6_drawn 89 = .ok (.bipush 8, 2) := by decide +kernel
theorem dX6_drawn_91 : decode cX6_drawn 91 = .ok (.idiv, 1) := by decide +kernel
theorem dX6_drawn_92 : decode cX6_drawn 92 = .ok (.bipush 7, 2) := by decide +kernel
theorem dX6_drawn_94 : decode cX6_drawn 94 = .ok (.irem, 1) := by decide +kernel
theorem dX6_drawn_95 : decode cX6_drawn 95 = .ok (.iconst 3, 1) := by decide +kernel
theorem dX6_drawn_96 : decode cX6_drawn 96 = .ok (.isub, 1) := by decide +kernel
theorem dX6_drawn_97 : decode cX6_drawn 97 = .ok (.iload 4, 2) := by decide +kernel
theorem dX6_drawn_99 : decode cX6_drawn 99 = .ok (.bipush 64, 2) := by decide +kernel
theorem dX6_drawn_101 : decode cX6_drawn 101 = .ok (.idiv, 1) := by decide +kernel
theorem dX6_drawn_102 : decode cX6_drawn 102 = .ok (.bipush 7, 2) := by decide +kernel
theorem dX6_drawn_104 : decode cX6_drawn 104 = .ok (.irem, 1) := by decide +kernel
theorem dX6_drawn_105 : decode cX6_drawn 105 = .ok (.iconst 3, 1) := by decide +kernel
theorem dX6_drawn_106 : decode cX6_drawn 106 = .ok (.isub, 1) := by decide +kernel
theorem dX6_drawn_107 : decode cX6_drawn 107 = .ok (.invokevirtual 208, 3) := by decide +kernel
theorem dX6_drawn_110 : decode cX6_drawn 110 = .ok (.iinc 3 1, 3) := by decide +kernel
theorem dX6_drawn_113 : decode cX6_drawn 113 = .ok (.goto (-73), 3) := by decide +kernel
theorem dX6_drawn_116 : decode cX6_drawn 116 = .ok (.aload_n 0, 1) := by decide +kernel
theorem dX6_drawn_117 : decode cX6_drawn 117 = .ok (.getfield 32, 3) := by decide +kernel
theorem dX6_drawn_120 : decode cX6_drawn 120 = .ok (.iconst 2, 1) := by decide +kernel
theorem dX6_drawn_121 : decode cX6_drawn 121 = .ok (.iaload, 1) := by decide +kernel
theorem dX6_drawn_122 : decode cX6_drawn 122 = .ok (.aload_n 0, 1) := by decide +kernel
theorem dX6_drawn_123 : decode cX6_drawn 123 = .ok (.getfield 32, 3) := by decide +kernel
theorem dX6_drawn_126 : decode cX6_drawn 126 = .ok (.iconst 4, 1) := by decide +kernel
theorem dX6_drawn_127 : decode cX6_drawn 127 = .ok (.iaload, 1) := by decide +kernel
theorem dX6_drawn_128 : decode cX6_drawn 128 = .ok (.iadd, 1) := by decide +kernel
theorem dX6_drawn_129 : decode cX6_drawn 129 = .ok (.iload_n 2, 1) := by decide +kernel
theorem dX6_drawn_130 : decode cX6_drawn 130 = .ok (.isub, 1) := by decide +kernel
theorem dX6_drawn_131 : decode cX6_drawn 131 = .ok (.ireturn, 1) := by decide +kernel
set_option maxRecDepth 20000 in
theorem ggX6_drawn_X6_layTrial : GoodIn wsX6_drawn wsX6_layTrial := goodIn_r _ [15, 3, 16, 7, 17, 93, 94, 95, 96, 97, 98, 99, 100, 101, 102, 103, 104, 105, 106, 107, 108, 109, 110, 111, 112, 113, 114, 115, 116, 117, 118, 119, 120, 121, 122, 123, 124, 125, 126, 127, 128] rfl (by decide +kernel)
set_option maxRecDepth 20000 in
theorem gX6_drawn_X6_layTrial : GoodIn wsX6_drawn (wsV RX6 248 RX6 yX6_layTrial wsX6_layTrial) := goodIn_app (goodIn_of _ (by decide +kernel)) ggX6_drawn_X6_layTrial
set_option maxRecDepth 20000 in
theorem ggX6_drawn_X6_tickBy : GoodIn wsX6_drawn wsX6_tickBy := goodIn_r _ [21, 22, 23, 24, 25, 10, 26, 27, 28, 29, 30, 31, 32, 33, 34, 35, 36, 37, 38, 39, 40, 41, 42, 43, 44, 45, 46, 47, 48, 49, 50, 51, 52, 53, 54, 55, 56, 57, 58, 59, 60, 61, 62, 63, 64, 65, 66, 67, 68, 69, 70, 71, 72, 73, 74, 75, 76, 77, 78, 79, 80, 81, 82, 83, 84, 85, 86, 87, 88, 89, 90, 91, 92, 93, 94, 95, 96, 97, 98, 99, 100, 101, 102, 103, 104, 105, 106, 107, 108, 109, 110, 111, 112, 113, 114, 115, 116, 117, 118, 119, 120, 121, 122, 123, 124, 125, 126, 127, 128] rfl (by decide +kernel)
set_option maxRecDepth 20000 in
theorem gX6_drawn_X6_tickBy : GoodIn wsX6_drawn (wsV RX6 208 RX6 yX6_tickBy wsX6_tickBy) := goodIn_app (goodIn_of _ (by decide +kernel)) ggX6_drawn_X6_tickBy
set_option maxRecDepth 100000 in
set_option maxHeartbeats 4000000 in
theorem m_X6_drawn {l : Launch} {D : va_G} {E : Nat → ClassId} {T : Nat → Nat} (o : Nat) (xa : Nat) (fa : Nat) (wa : Nat) (la : Nat) (ta : Nat) (ma : Nat) (sa : Nat) (nw : Nat) (nf : Nat) (pa : Nat) (va : Nat) (ua : Nat) (ya : Nat) (B : Nat) (u0 : Value) (u1 : Value) (u2 : Value) (u7 : Value) (u8 : Value) (u9 : Value) (u10 : Value) (u15 : Value) (u16 : Value) (u17 : Value) (u18 : Value) (u19 : Value) (u20 : Value) (u21 : Value) (u22 : Value) (u23 : Value) (u24 : Value) (u25 : Value) (u34 : Value) (fl : Nat → Int32) (S : TS) (U : TS) (K : RJ) (n : Nat) (r0 : Int64) (hok : OkS B S) (hB : B + 20 < 2 ^ 31) (hnw : nw ≤ 6) (hnf : nf ≤ 6) (hn1 : 1 ≤ n) (hn : n ≤ 20) : g_ME l D E T yX6_drawn wsX6_drawn 6 149 [.ref o, .int (nI n)] [(o, .inr (6, [u0, u1, u2, .ref xa, .int (nI nw), .int (nI nf), .ref fa, u7, u8, u9, u10, .ref pa, .ref va, .ref ua, .ref ya, u15, u16, u17, u18, u19, u20, u21, u22, u23, u24, u25, .long r0, .ref wa, .ref la, .ref ta, .int (rS K), .int (rN K), .float (rH K), .ref ma, u34, .ref sa])), (xa, .inl (E 0, 12, .inl (g_tv 0))), (fa, .inl (E 0, 18, .inl fl)), (wa, .inl (E 0, 3, .inl (rW K))), (la, .inl (E 1, 4, .inr (.inr (.inl (rP K))))), (ta, .inl (E 1, 4, .inr (.inr (.inl (rT K))))), (ma, .inl (E 1, 3, .inr (.inr (.inl (rM K))))), (sa, .inl (E 0, 9, .inl (g_tv 1))), (pa, .inl (E 0, 29, .inl (pgF S))), (va, .inl (E 1, 5, .inr (.inr (.inl (fl5 S))))), (ua, .inl (E 0, 29, .inl (pgF U))), (ya, .inl (E 1, 5, .inr (.inr (.inl (fl5 U)))))] (fun (K1 : RJ) => [(o, .inr (6, [.int 0, u1, u2, .ref xa, .int (nI nw), .int (nI nf), .ref fa, u7, u8, u9, u10, .ref pa, .ref va, .ref ua, .ref ya, u15, u16, u17, u18, u19, u20, u21, u22, u23, u24, u25, .long ((ddP nw nf fl r0 S n).1), .ref wa, .ref la, .ref ta, .int (rS K1), .int (rN K1), .float (rH K1), .ref ma, u34, .ref sa])), (xa, .inl (E 0, 12, .inl (g_tv 0))), (fa, .inl (E 0, 18, .inl fl)), (wa, .inl (E 0, 3, .inl (rW K1))), (la, .inl (E 1, 4, .inr (.inr (.inl (rP K1))))), (ta, .inl (E 1, 4, .inr (.inr (.inl (rT K1))))), (ma, .inl (E 1, 3, .inr (.inr (.inl (rM K1))))), (sa, .inl (E 0, 9, .inl (g_tv 1))), (pa, .inl (E 0, 29, .inl (pgF S))), (va, .inl (E 1, 5, .inr (.inr (.inl (fl5 S))))), (ua, .inl (E 0, 29, .inl (pgF ((ddP nw nf fl r0 S n).2)))), (ya, .inl (E 1, 5, .inr (.inr (.inl (fl5 ((ddP nw nf fl r0 S n).2))))))]) (some (.int ((sI (ddP nw nf fl r0 S n).2 + sA (ddP nw nf fl r0 S n).2) - (sI S + sA S)))) := by
  refine g_ME.of (cc := cX6_drawn) (nL := 5) (ret := (some .int)) (own := RX6) (lv := [(0, .ref o), (1, .int (nI n))]) (by decide) rfl rfl (Nat.le_of_ble_eq_true rfl) rfl ?_
  intro p e R s m args below meth c A Q H locs ls hR hQ hc hr hw hl
  have hx := hc.1
  have hb := hc.2.1
  have hts := hc.2.2.2.1
  have hown := hc.2.2.2.2.1
  refine lv_aload_n hx hb dX6_drawn_0 rfl (lv_at hl 0 rfl) ?_
  refine lv_iconst (v := 0) hx hb dX6_drawn_1 (by decide) ?_
  refine g_put (TT := TX6) hc hw inX6_drawn_X6 tyX6 tyX6_ok nmX6 0 0 1 rfl rfl (by decide) rfl rfl rfl rfl (Nat.le_of_ble_eq_true rfl) dX6_drawn_2 (fun H locs hw => ?_)
  have hw : g_W D A s [(o, .inr (6, [.int 0, u1, u2, .ref xa, .int (nI nw), .int (nI nf), .ref fa, u7, u8, u9, u10, .ref pa, .ref va, .ref ua, .ref ya, u15, u16, u17, u18, u19, u20, u21, u22, u23, u24, u25, .long r0, .ref wa, .ref la, .ref ta, .int (rS K), .int (rN K), .float (rH K), .ref ma, u34, .ref sa])), (xa, .inl (E 0, 12, .inl (g_tv 0))), (fa, .inl (E 0, 18, .inl fl)), (wa, .inl (E 0, 3, .inl (rW K))), (la, .inl (E 1, 4, .inr (.inr (.inl (rP K))))), (ta, .inl (E 1, 4, .inr (.inr (.inl (rT K))))), (ma, .inl (E 1, 3, .inr (.inr (.inl (rM K))))), (sa, .inl (E 0, 9, .inl (g_tv 1))), (pa, .inl (E 0, 29, .inl (pgF S))), (va, .inl (E 1, 5, .inr (.inr (.inl (fl5 S))))), (ua, .inl (E 0, 29, .inl (pgF U))), (ya, .inl (E 1, 5, .inr (.inr (.inl (fl5 U)))))] H locs := hw
  refine lv_iload_n hx hb dX6_drawn_5 rfl (lv_at hl 1 rfl) ?_
  refine lv_i2l hx hb dX6_drawn_6 rfl ?_
  refine lv_lconst (v := 1) hx hb dX6_drawn_7 (by decide) ?_
  refine lv_ldc2 (v := 20) hx hb hown (hts _ (List.mem_of_getElem? (i := 2) rfl)) dX6_drawn_8 ?_
  refine g_cS (As := [.long ((nI n).toInt64), .long 1, .long 20]) (n := 3) (rest := []) (wc := []) (w1 := []) (bytes := cX6_in) (maxL := 6) (ret := (some .boolean)) hc hw hl.1 (m_X6_in (l := l) (D := D) (E := E) (T := T) ((nI n).toInt64) 1 20) gX6_drawn_X6_in rfl (by decide +kernel) (by rw [hR]; exact ⟨Nat.le_of_ble_eq_true rfl, Nat.le_of_ble_eq_true rfl⟩) [] (by decide) rfl [] rfl rfl rfl rfl (Nat.le_of_ble_eq_true rfl) dX6_drawn_11 ⟨Nat.zero_le _, Nat.zero_le _⟩ (fun H locs hw => ?_)
  have hw : g_W D A s [(o, .inr (6, [.int 0, u1, u2, .ref xa, .int (nI nw), .int (nI nf), .ref fa, u7, u8, u9, u10, .ref pa, .ref va, .ref ua, .ref ya, u15, u16, u17, u18, u19, u20, u21, u22, u23, u24, u25, .long r0, .ref wa, .ref la, .ref ta, .int (rS K), .int (rN K), .float (rH K), .ref ma, u34, .ref sa])), (xa, .inl (E 0, 12, .inl (g_tv 0))), (fa, .inl (E 0, 18, .inl fl)), (wa, .inl (E 0, 3, .inl (rW K))), (la, .inl (E 1, 4, .inr (.inr (.inl (rP K))))), (ta, .inl (E 1, 4, .inr (.inr (.inl (rT K))))), (ma, .inl (E 1, 3, .inr (.inr (.inl (rM K))))), (sa, .inl (E 0, 9, .inl (g_tv 1))), (pa, .inl (E 0, 29, .inl (pgF S))), (va, .inl (E 1, 5, .inr (.inr (.inl (fl5 S))))), (ua, .inl (E 0, 29, .inl (pgF U))), (ya, .inl (E 1, 5, .inr (.inr (.inl (fl5 U)))))] H locs := hw
  refine W.eq (congrArg (fun z => F0 m 14 ls (.int z :: [])) (show (b2i (inL ((nI n).toInt64) 1 20) : Int32) = 1 from (congrArg b2i (in_i (out_nf (n := n) (a := 1) (b := 20) (by omega) hn (by decide)) (by decide) (by decide))))) ?_
  refine lv_if_ne (tgt := 20) hx hb dX6_drawn_14 (by decide) (fun c_14 => ?_) (fun c_14 => absurd c_14 (by decide))
  refine lv_aload_n hx hb dX6_drawn_20 rfl (lv_at hl 0 rfl) ?_
  refine g_cV (As := []) (n := 0) (rest := []) (wc := [(o, .inr (6, [.int 0, u1, u2, .ref xa, .int (nI nw), .int (nI nf), .ref fa, u7, u8, u9, u10, .ref pa, .ref va, .ref ua, .ref ya, u15, u16, u17, u18, u19, u20, u21, u22, u23, u24, u25, .long r0, .ref wa, .ref la, .ref ta, .int (rS K), .int (rN K), .float (rH K), .ref ma, u34, .ref sa])), (pa, .inl (E 0, 29, .inl (pgF S))), (va, .inl (E 1, 5, .inr (.inr (.inl (fl5 S))))), (ua, .inl (E 0, 29, .inl (pgF U))), (ya, .inl (E 1, 5, .inr (.inr (.inl (fl5 U)))))]) (w1 := [(o, .inr (6, [.int 0, u1, u2, .ref xa, .int (nI nw), .int (nI nf), .ref fa, u7, u8, u9, u10, .ref pa, .ref va, .ref ua, .ref ya, u15, u16, u17, u18, u19, u20, u21, u22, u23, u24, u25, .long r0, .ref wa, .ref la, .ref ta, .int (rS K), .int (rN K), .float (rH K), .ref ma, u34, .ref sa])), (pa, .inl (E 0, 29, .inl (pgF S))), (va, .inl (E 1, 5, .inr (.inr (.inl (fl5 S))))), (ua, .inl (E 0, 29, .inl (pgF S))), (ya, .inl (E 1, 5, .inr (.inr (.inl (fl5 S)))))]) (bytes := cX6_layTrial) (maxL := 2) (ret := none) hc hw hl.1 (m_X6_layTrial (l := l) (D := D) (E := E) (T := T) o (.int 0) u1 u2 (.ref xa) (.int (nI nw)) (.int (nI nf)) (.ref fa) u7 u8 u9 u10 u15 u16 u17 u18 u19 u20 u21 u22 u23 u24 u25 (.long r0) (.ref wa) (.ref la) (.ref ta) (.int (rS K)) (.int (rN K)) (.float (rH K)) (.ref ma) u34 (.ref sa) pa va ua ya (pgF S) (fl5 S) (pgF U) (fl5 U)) gX6_drawn_X6_layTrial rfl (by decide +kernel) (by rw [hR]; exact ⟨Nat.le_of_ble_eq_true rfl, Nat.le_of_ble_eq_true rfl⟩) [0, 8, 9, 10, 11] 0 6 rfl rfl (by decide) rfl [o, pa, va, ua, ya] rfl rfl rfl rfl (Nat.le_of_ble_eq_true rfl) dX6_drawn_21 ⟨Nat.zero_le _, Nat.zero_le _⟩ (fun H locs hw => ?_)
  have hw : g_W D A s [(o, .inr (6, [.int 0, u1, u2, .ref xa, .int (nI nw), .int (nI nf), .ref fa, u7, u8, u9, u10, .ref pa, .ref va, .ref ua, .ref ya, u15, u16, u17, u18, u19, u20, u21, u22, u23, u24, u25, .long r0, .ref wa, .ref la, .ref ta, .int (rS K), .int (rN K), .float (rH K), .ref ma, u34, .ref sa])), (xa, .inl (E 0, 12, .inl (g_tv 0))), (fa, .inl (E 0, 18, .inl fl)), (wa, .inl (E 0, 3, .inl (rW K))), (la, .inl (E 1, 4, .inr (.inr (.inl (rP K))))), (ta, .inl (E 1, 4, .inr (.inr (.inl (rT K))))), (ma, .inl (E 1, 3, .inr (.inr (.inl (rM K))))), (sa, .inl (E 0, 9, .inl (g_tv 1))), (pa, .inl (E 0, 29, .inl (pgF S))), (va, .inl (E 1, 5, .inr (.inr (.inl (fl5 S))))), (ua, .inl (E 0, 29, .inl (pgF S))), (ya, .inl (E 1, 5, .inr (.inr (.inl (fl5 S)))))] H locs := hw
  refine lv_aload_n hx hb dX6_drawn_24 rfl (lv_at hl 0 rfl) ?_
  refine g_get (TT := TX6) hc hw inX6_drawn_X6 0 13 3 rfl rfl (by decide) rfl rfl dX6_drawn_25 ?_
  refine lv_iconst (v := 2) hx hb dX6_drawn_28 (by decide) ?_
  refine g_ild hc hw 10 2 rfl rfl (by omega) (by decide) dX6_drawn_29 ?_
  refine W.eq (congrArg (fun z => F0 m 30 ls (.int z :: [])) (show ((pgF S) 2 : Int32) = sI S from rfl)) ?_
  refine lv_aload_n hx hb dX6_drawn_30 rfl (lv_at hl 0 rfl) ?_
  refine g_get (TT := TX6) hc hw inX6_drawn_X6 0 13 3 rfl rfl (by decide) rfl rfl dX6_drawn_31 ?_
  refine lv_iconst (v := 4) hx hb dX6_drawn_34 (by decide) ?_
  refine g_ild hc hw 10 4 rfl rfl (by omega) (by decide) dX6_drawn_35 ?_
  refine W.eq (congrArg (fun z => F0 m 36 ls (.int z :: [.int (sI S)])) (show ((pgF S) 4 : Int32) = sA S from rfl)) ?_
  refine lv_iadd hx hb dX6_drawn_36 ?_
  refine lv_istore_n (lv' := [(2, .int ((sI S) + (sA S))), (0, .ref o), (1, .int (nI n))]) hx hb dX6_drawn_37 rfl hl (by decide) rfl (fun ls hl => ?_)
  refine lv_iconst (v := 0) hx hb dX6_drawn_38 (by decide) ?_
  refine lv_istore_n (lv' := [(3, .int 0), (2, .int ((sI S) + (sA S))), (0, .ref o), (1, .int (nI n))]) hx hb dX6_drawn_39 rfl hl (by decide) rfl (fun ls hl => ?_)
  have J40 : ∀ (k9 : Nat) (i : Nat), i + k9 = n → ∀ (K1 : RJ), ∀ (H : Heap) (locs : List Loc) (ls : Array Slot), g_W D A s [(o, .inr (6, [.int 0, u1, u2, .ref xa, .int (nI nw), .int (nI nf), .ref fa, u7, u8, u9, u10, .ref pa, .ref va, .ref ua, .ref ya, u15, u16, u17, u18, u19, u20, u21, u22, u23, u24, u25, .long ((ddP nw nf fl r0 S i).1), .ref wa, .ref la, .ref ta, .int (rS K1), .int (rN K1), .float (rH K1), .ref ma, u34, .ref sa])), (xa, .inl (E 0, 12, .inl (g_tv 0))), (fa, .inl (E 0, 18, .inl fl)), (wa, .inl (E 0, 3, .inl (rW K1))), (la, .inl (E 1, 4, .inr (.inr (.inl (rP K1))))), (ta, .inl (E 1, 4, .inr (.inr (.inl (rT K1))))), (ma, .inl (E 1, 3, .inr (.inr (.inl (rM K1))))), (sa, .inl (E 0, 9, .inl (g_tv 1))), (pa, .inl (E 0, 29, .inl (pgF S))), (va, .inl (E 1, 5, .inr (.inr (.inl (fl5 S))))), (ua, .inl (E 0, 29, .inl (pgF ((ddP nw nf fl r0 S i).2)))), (ya, .inl (E 1, 5, .inr (.inr (.inl (fl5 ((ddP nw nf fl r0 S i).2))))))] H locs → lv_has ls 5 [(0, .ref o), (1, .int (nI n)), (2, .int ((sI S) + (sA S))), (3, .int (nI i))] → W p l e R s m args below meth c H locs 0 0 Q (F0 m 40 ls []) := by
    intro k9
    induction k9 with
    | zero =>
      intro i h9 K1  H locs ls hw hl
      have h9 : n = i := Eq.symm h9
      subst h9
      refine lv_iload_n hx hb dX6_drawn_40 rfl (lv_at hl 3 rfl) ?_
      refine lv_iload_n hx hb dX6_drawn_41 rfl (lv_at hl 1 rfl) ?_
      refine lv_icmp_ge (tgt := 116) hx hb dX6_drawn_42 (by decide) (fun c_42 => ?_) (fun c_42 => absurd (by exact Int32.le_refl _) c_42)
      refine lv_aload_n hx hb dX6_drawn_116 rfl (lv_at hl 0 rfl) ?_
      refine g_get (TT := TX6) hc hw inX6_drawn_X6 0 13 3 rfl rfl (by decide) rfl rfl dX6_drawn_117 ?_
      refine lv_iconst (v := 2) hx hb dX6_drawn_120 (by decide) ?_
      refine g_ild hc hw 10 2 rfl rfl (by omega) (by decide) dX6_drawn_121 ?_
      refine W.eq (congrArg (fun z => F0 m 122 ls (.int z :: [])) (show ((pgF ((ddP nw nf fl r0 S n).2)) 2 : Int32) = sI ((ddP nw nf fl r0 S n).2) from rfl)) ?_
      refine lv_aload_n hx hb dX6_drawn_122 rfl (lv_at hl 0 rfl) ?_
      refine g_get (TT := TX6) hc hw inX6_drawn_X6 0 13 3 rfl rfl (by decide) rfl rfl dX6_drawn_123 ?_
      refine lv_iconst (v := 4) hx hb dX6_drawn_126 (by decide) ?_
      refine g_ild hc hw 10 4 rfl rfl (by omega) (by decide) dX6_drawn_127 ?_
      refine W.eq (congrArg (fun z => F0 m 128 ls (.int z :: [.int (sI ((ddP nw nf fl r0 S n).2))])) (show ((pgF ((ddP nw nf fl r0 S n).2)) 4 : Int32) = sA ((ddP nw nf fl r0 S n).2) from rfl)) ?_
      refine lv_iadd hx hb dX6_drawn_128 ?_
      refine lv_iload_n hx hb dX6_drawn_129 rfl (lv_at hl 2 rfl) ?_
      refine lv_isub hx hb dX6_drawn_130 ?_
      exact g_iretE K1 hQ hc hw hr rfl rfl dX6_drawn_131
    | succ k9 ih =>
      intro i h9 K1  H locs ls hw hl
      have h9b : i < n := by omega
      refine lv_iload_n hx hb dX6_drawn_40 rfl (lv_at hl 3 rfl) ?_
      refine lv_iload_n hx hb dX6_drawn_41 rfl (lv_at hl 1 rfl) ?_
      refine lv_icmp_ge (tgt := 116) hx hb dX6_drawn_42 (by decide) (fun c_42 => absurd c_42 (nI_ge (show i < n by omega) (by omega))) (fun c_42 => ?_)
      refine lv_aload_n hx hb dX6_drawn_45 rfl (lv_at hl 0 rfl) ?_
      refine lv_aload_n hx hb dX6_drawn_46 rfl (lv_at hl 0 rfl) ?_
      refine g_get (TT := TX6) hc hw inX6_drawn_X6 0 26 4 rfl rfl (by decide) rfl rfl dX6_drawn_47 ?_
      refine lv_ldc2 (v := 6364136223846793005) hx hb hown (hts _ (List.mem_of_getElem? (i := 5) rfl)) dX6_drawn_50 ?_
      refine lv_lmul hx hb dX6_drawn_53 ?_
      refine lv_ldc2 (v := 1442695040888963407) hx hb hown (hts _ (List.mem_of_getElem? (i := 6) rfl)) dX6_drawn_54 ?_
      refine lv_ladd hx hb dX6_drawn_57 ?_
      refine W.eq (congrArg (fun z => F0 m 58 ls (.long z :: [.ref o])) (show ((((ddP nw nf fl r0 S i).1) * 6364136223846793005) + 1442695040888963407 : Int64) = ddR (ddP nw nf fl r0 S i).1 from rfl)) ?_
      refine g_put (TT := TX6) hc hw inX6_drawn_X6 tyX6 tyX6_ok nmX6 0 26 4 rfl rfl (by decide) rfl rfl rfl rfl (Nat.le_of_ble_eq_true rfl) dX6_drawn_58 (fun H locs hw => ?_)
      have hw : g_W D A s [(o, .inr (6, [.int 0, u1, u2, .ref xa, .int (nI nw), .int (nI nf), .ref fa, u7, u8, u9, u10, .ref pa, .ref va, .ref ua, .ref ya, u15, u16, u17, u18, u19, u20, u21, u22, u23, u24, u25, .long (ddR (ddP nw nf fl r0 S i).1), .ref wa, .ref la, .ref ta, .int (rS K1), .int (rN K1), .float (rH K1), .ref ma, u34, .ref sa])), (xa, .inl (E 0, 12, .inl (g_tv 0))), (fa, .inl (E 0, 18, .inl fl)), (wa, .inl (E 0, 3, .inl (rW K1))), (la, .inl (E 1, 4, .inr (.inr (.inl (rP K1))))), (ta, .inl (E 1, 4, .inr (.inr (.inl (rT K1))))), (ma, .inl (E 1, 3, .inr (.inr (.inl (rM K1))))), (sa, .inl (E 0, 9, .inl (g_tv 1))), (pa, .inl (E 0, 29, .inl (pgF S))), (va, .inl (E 1, 5, .inr (.inr (.inl (fl5 S))))), (ua, .inl (E 0, 29, .inl (pgF ((ddP nw nf fl r0 S i).2)))), (ya, .inl (E 1, 5, .inr (.inr (.inl (fl5 ((ddP nw nf fl r0 S i).2))))))] H locs := hw
      refine lv_aload_n hx hb dX6_drawn_61 rfl (lv_at hl 0 rfl) ?_
      refine g_get (TT := TX6) hc hw inX6_drawn_X6 0 26 4 rfl rfl (by decide) rfl rfl dX6_drawn_62 ?_
      refine lv_bipush (v := 33) hx hb dX6_drawn_65 (by decide) ?_
      refine lv_lushr hx hb dX6_drawn_67 rfl ?_
      refine lv_l2i hx hb dX6_drawn_68 rfl ?_
      refine W.eq (congrArg (fun z => F0 m 69 ls (.int z :: [])) (show ((((ddR (ddP nw nf fl r0 S i).1).toUInt64 >>> ((33 : Int32).toInt64.toUInt64 &&& Int64.toUInt64 63)).toInt64).toInt32 : Int32) = ddV (ddP nw nf fl r0 S i).1 from rfl)) ?_
      refine lv_istore (lv' := [(4, .int (ddV (ddP nw nf fl r0 S i).1)), (0, .ref o), (1, .int (nI n)), (2, .int ((sI S) + (sA S))), (3, .int (nI i))]) hx hb dX6_drawn_69 hl (by decide) rfl (fun ls hl => ?_)
      refine lv_aload_n hx hb dX6_drawn_71 rfl (lv_at hl 1 rfl) ?_
      refine lv_aload_n hx hb dX6_drawn_72 rfl (lv_at hl 1 rfl) ?_
      refine g_get (TT := TX6) hc hw inX6_drawn_X6 0 13 3 rfl rfl (by decide) rfl rfl dX6_drawn_73 ?_
      refine lv_aload_n hx hb dX6_drawn_76 rfl (lv_at hl 1 rfl) ?_
      refine g_get (TT := TX6) hc hw inX6_drawn_X6 0 14 7 rfl rfl (by decide) rfl rfl dX6_drawn_77 ?_
      refine lv_iload hx hb dX6_drawn_80 (lv_at hl 0 rfl) ?_
      refine lv_bipush (v := 7) hx hb dX6_drawn_82 (by decide) ?_
      refine lv_irem hx hb dX6_drawn_84 (by decide) ?_
      refine lv_iconst (v := 3) hx hb dX6_drawn_85 (by decide) ?_
      refine lv_isub hx hb dX6_drawn_86 ?_
      refine lv_iload hx hb dX6_drawn_87 (lv_at hl 0 rfl) ?_
      refine lv_bipush (v := 8) hx hb dX6_drawn_89 (by decide) ?_
      refine lv_idiv hx hb dX6_drawn_91 (by decide) ?_
      refine lv_bipush (v := 7) hx hb dX6_drawn_92 (by decide) ?_
      refine lv_irem hx hb dX6_drawn_94 (by decide) ?_
      refine lv_iconst (v := 3) hx hb dX6_drawn_95 (by decide) ?_
      refine lv_isub hx hb dX6_drawn_96 ?_
      refine lv_iload hx hb dX6_drawn_97 (lv_at hl 0 rfl) ?_
      refine lv_bipush (v := 64) hx hb dX6_drawn_99 (by decide) ?_
      refine lv_idiv hx hb dX6_drawn_101 (by decide) ?_
      refine lv_bipush (v := 7) hx hb dX6_drawn_102 (by decide) ?_
      refine lv_irem hx hb dX6_drawn_104 (by decide) ?_
      refine lv_iconst (v := 3) hx hb dX6_drawn_105 (by decide) ?_
      refine lv_isub hx hb dX6_drawn_106 ?_
      refine g_cV (As := [.ref ua, .ref ya, .int (((ddV (ddP nw nf fl r0 S i).1) - (ddV (ddP nw nf fl r0 S i).1) / 7 * 7) - 3), .int ((((ddV (ddP nw nf fl r0 S i).1) / 8) - ((ddV (ddP nw nf fl r0 S i).1) / 8) / 7 * 7) - 3), .int ((((ddV (ddP nw nf fl r0 S i).1) / 64) - ((ddV (ddP nw nf fl r0 S i).1) / 64) / 7 * 7) - 3)]) (n := 5) (rest := []) (wc := [(o, .inr (6, [.int 0, u1, u2, .ref xa, .int (nI nw), .int (nI nf), .ref fa, u7, u8, u9, u10, .ref pa, .ref va, .ref ua, .ref ya, u15, u16, u17, u18, u19, u20, u21, u22, u23, u24, u25, .long (ddR (ddP nw nf fl r0 S i).1), .ref wa, .ref la, .ref ta, .int (rS K1), .int (rN K1), .float (rH K1), .ref ma, u34, .ref sa])), (xa, .inl (E 0, 12, .inl (g_tv 0))), (fa, .inl (E 0, 18, .inl fl)), (wa, .inl (E 0, 3, .inl (rW K1))), (la, .inl (E 1, 4, .inr (.inr (.inl (rP K1))))), (ta, .inl (E 1, 4, .inr (.inr (.inl (rT K1))))), (ma, .inl (E 1, 3, .inr (.inr (.inl (rM K1))))), (sa, .inl (E 0, 9, .inl (g_tv 1))), (ua, .inl (E 0, 29, .inl (pgF ((ddP nw nf fl r0 S i).2)))), (ya, .inl (E 1, 5, .inr (.inr (.inl (fl5 ((ddP nw nf fl r0 S i).2))))))]) (w1 := [(o, .inr (6, [.int 0, u1, u2, .ref xa, .int (nI nw), .int (nI nf), .ref fa, u7, u8, u9, u10, .ref pa, .ref va, .ref ua, .ref ya, u15, u16, u17, u18, u19, u20, u21, u22, u23, u24, u25, .long (ddR (ddP nw nf fl r0 S i).1), .ref wa, .ref la, .ref ta, .int (rS (rjF nw (x3F ((ddV (ddP nw nf fl r0 S i).1 - ddV (ddP nw nf fl r0 S i).1 / 7 * 7) - 3) ((ddV (ddP nw nf fl r0 S i).1 / 8 - ddV (ddP nw nf fl r0 S i).1 / 8 / 7 * 7) - 3) ((ddV (ddP nw nf fl r0 S i).1 / 64 - ddV (ddP nw nf fl r0 S i).1 / 64 / 7 * 7) - 3)) ((ddP nw nf fl r0 S i).2) K1)), .int (rN (rjF nw (x3F ((ddV (ddP nw nf fl r0 S i).1 - ddV (ddP nw nf fl r0 S i).1 / 7 * 7) - 3) ((ddV (ddP nw nf fl r0 S i).1 / 8 - ddV (ddP nw nf fl r0 S i).1 / 8 / 7 * 7) - 3) ((ddV (ddP nw nf fl r0 S i).1 / 64 - ddV (ddP nw nf fl r0 S i).1 / 64 / 7 * 7) - 3)) ((ddP nw nf fl r0 S i).2) K1)), .float (rH (rjF nw (x3F ((ddV (ddP nw nf fl r0 S i).1 - ddV (ddP nw nf fl r0 S i).1 / 7 * 7) - 3) ((ddV (ddP nw nf fl r0 S i).1 / 8 - ddV (ddP nw nf fl r0 S i).1 / 8 / 7 * 7) - 3) ((ddV (ddP nw nf fl r0 S i).1 / 64 - ddV (ddP nw nf fl r0 S i).1 / 64 / 7 * 7) - 3)) ((ddP nw nf fl r0 S i).2) K1)), .ref ma, u34, .ref sa])), (xa, .inl (E 0, 12, .inl (g_tv 0))), (fa, .inl (E 0, 18, .inl fl)), (wa, .inl (E 0, 3, .inl (rW (rjF nw (x3F ((ddV (ddP nw nf fl r0 S i).1 - ddV (ddP nw nf fl r0 S i).1 / 7 * 7) - 3) ((ddV (ddP nw nf fl r0 S i).1 / 8 - ddV (ddP nw nf fl r0 S i).1 / 8 / 7 * 7) - 3) ((ddV (ddP nw nf fl r0 S i).1 / 64 - ddV (ddP nw nf fl r0 S i).1 / 64 / 7 * 7) - 3)) ((ddP nw nf fl r0 S i).2) K1)))), (la, .inl (E 1, 4, .inr (.inr (.inl (rP (rjF nw (x3F ((ddV (ddP nw nf fl r0 S i).1 - ddV (ddP nw nf fl r0 S i).1 / 7 * 7) - 3) ((ddV (ddP nw nf fl r0 S i).1 / 8 - ddV (ddP nw nf fl r0 S i).1 / 8 / 7 * 7) - 3) ((ddV (ddP nw nf fl r0 S i).1 / 64 - ddV (ddP nw nf fl r0 S i).1 / 64 / 7 * 7) - 3)) ((ddP nw nf fl r0 S i).2) K1)))))), (ta, .inl (E 1, 4, .inr (.inr (.inl (rT (rjF nw (x3F ((ddV (ddP nw nf fl r0 S i).1 - ddV (ddP nw nf fl r0 S i).1 / 7 * 7) - 3) ((ddV (ddP nw nf fl r0 S i).1 / 8 - ddV (ddP nw nf fl r0 S i).1 / 8 / 7 * 7) - 3) ((ddV (ddP nw nf fl r0 S i).1 / 64 - ddV (ddP nw nf fl r0 S i).1 / 64 / 7 * 7) - 3)) ((ddP nw nf fl r0 S i).2) K1)))))), (ma, .inl (E 1, 3, .inr (.inr (.inl (rM (rjF nw (x3F ((ddV (ddP nw nf fl r0 S i).1 - ddV (ddP nw nf fl r0 S i).1 / 7 * 7) - 3) ((ddV (ddP nw nf fl r0 S i).1 / 8 - ddV (ddP nw nf fl r0 S i).1 / 8 / 7 * 7) - 3) ((ddV (ddP nw nf fl r0 S i).1 / 64 - ddV (ddP nw nf fl r0 S i).1 / 64 / 7 * 7) - 3)) ((ddP nw nf fl r0 S i).2) K1)))))), (sa, .inl (E 0, 9, .inl (g_tv 1))), (ua, .inl (E 0, 29, .inl (pgF (tkF nw nf fl (x3F ((ddV (ddP nw nf fl r0 S i).1 - ddV (ddP nw nf fl r0 S i).1 / 7 * 7) - 3) ((ddV (ddP nw nf fl r0 S i).1 / 8 - ddV (ddP nw nf fl r0 S i).1 / 8 / 7 * 7) - 3) ((ddV (ddP nw nf fl r0 S i).1 / 64 - ddV (ddP nw nf fl r0 S i).1 / 64 / 7 * 7) - 3)) ((ddP nw nf fl r0 S i).2))))), (ya, .inl (E 1, 5, .inr (.inr (.inl (fl5 (tkF nw nf fl (x3F ((ddV (ddP nw nf fl r0 S i).1 - ddV (ddP nw nf fl r0 S i).1 / 7 * 7) - 3) ((ddV (ddP nw nf fl r0 S i).1 / 8 - ddV (ddP nw nf fl r0 S i).1 / 8 / 7 * 7) - 3) ((ddV (ddP nw nf fl r0 S i).1 / 64 - ddV (ddP nw nf fl r0 S i).1 / 64 / 7 * 7) - 3)) ((ddP nw nf fl r0 S i).2)))))))]) (bytes := cX6_tickBy) (maxL := 7) (ret := none) hc hw hl.1 (m_X6_tickBy (l := l) (D := D) (E := E) (T := T) o xa fa wa la ta ma sa ua ya nw nf (B + i) (.int 0) u1 u2 u7 u8 u9 u10 (.ref pa) (.ref va) (.ref ua) (.ref ya) u15 u16 u17 u18 u19 u20 u21 u22 u23 u24 u25 (.long (ddR (ddP nw nf fl r0 S i).1)) u34 fl ((ddP nw nf fl r0 S i).2) K1 ((ddV (ddP nw nf fl r0 S i).1 - ddV (ddP nw nf fl r0 S i).1 / 7 * 7) - 3) ((ddV (ddP nw nf fl r0 S i).1 / 8 - ddV (ddP nw nf fl r0 S i).1 / 8 / 7 * 7) - 3) ((ddV (ddP nw nf fl r0 S i).1 / 64 - ddV (ddP nw nf fl r0 S i).1 / 64 / 7 * 7) - 3) (hok.dd nw nf fl r0 i) (by omega) (by first | assumption | omega | decide) (by first | assumption | omega | decide)) gX6_drawn_X6_tickBy rfl (by decide +kernel) (by rw [hR]; exact ⟨Nat.le_of_ble_eq_true rfl, Nat.le_of_ble_eq_true rfl⟩) [0, 1, 2, 3, 4, 5, 6, 7, 10, 11] 0 6 rfl rfl (by decide) rfl [o, xa, fa, wa, la, ta, ma, sa, ua, ya] rfl rfl rfl rfl (Nat.le_of_ble_eq_true rfl) dX6_drawn_107 ⟨Nat.zero_le _, Nat.zero_le _⟩ (fun H locs hw => ?_)
      have hw : g_W D A s [(o, .inr (6, [.int 0, u1, u2, .ref xa, .int (nI nw), .int (nI nf), .ref fa, u7, u8, u9, u10, .ref pa, .ref va, .ref ua, .ref ya, u15, u16, u17, u18, u19, u20, u21, u22, u23, u24, u25, .long (ddR (ddP nw nf fl r0 S i).1), .ref wa, .ref la, .ref ta, .int (rS (rjF nw (x3F ((ddV (ddP nw nf fl r0 S i).1 - ddV (ddP nw nf fl r0 S i).1 / 7 * 7) - 3) ((ddV (ddP nw nf fl r0 S i).1 / 8 - ddV (ddP nw nf fl r0 S i).1 / 8 / 7 * 7) - 3) ((ddV (ddP nw nf fl r0 S i).1 / 64 - ddV (ddP nw nf fl r0 S i).1 / 64 / 7 * 7) - 3)) ((ddP nw nf fl r0 S i).2) K1)), .int (rN (rjF nw (x3F ((ddV (ddP nw nf fl r0 S i).1 - ddV (ddP nw nf fl r0 S i).1 / 7 * 7) - 3) ((ddV (ddP nw nf fl r0 S i).1 / 8 - ddV (ddP nw nf fl r0 S i).1 / 8 / 7 * 7) - 3) ((ddV (ddP nw nf fl r0 S i).1 / 64 - ddV (ddP nw nf fl r0 S i).1 / 64 / 7 * 7) - 3)) ((ddP nw nf fl r0 S i).2) K1)), .float (rH (rjF nw (x3F ((ddV (ddP nw nf fl r0 S i).1 - ddV (ddP nw nf fl r0 S i).1 / 7 * 7) - 3) ((ddV (ddP nw nf fl r0 S i).1 / 8 - ddV (ddP nw nf fl r0 S i).1 / 8 / 7 * 7) - 3) ((ddV (ddP nw nf fl r0 S i).1 / 64 - ddV (ddP nw nf fl r0 S i).1 / 64 / 7 * 7) - 3)) ((ddP nw nf fl r0 S i).2) K1)), .ref ma, u34, .ref sa])), (xa, .inl (E 0, 12, .inl (g_tv 0))), (fa, .inl (E 0, 18, .inl fl)), (wa, .inl (E 0, 3, .inl (rW (rjF nw (x3F ((ddV (ddP nw nf fl r0 S i).1 - ddV (ddP nw nf fl r0 S i).1 / 7 * 7) - 3) ((ddV (ddP nw nf fl r0 S i).1 / 8 - ddV (ddP nw nf fl r0 S i).1 / 8 / 7 * 7) - 3) ((ddV (ddP nw nf fl r0 S i).1 / 64 - ddV (ddP nw nf fl r0 S i).1 / 64 / 7 * 7) - 3)) ((ddP nw nf fl r0 S i).2) K1)))), (la, .inl (E 1, 4, .inr (.inr (.inl (rP (rjF nw (x3F ((ddV (ddP nw nf fl r0 S i).1 - ddV (ddP nw nf fl r0 S i).1 / 7 * 7) - 3) ((ddV (ddP nw nf fl r0 S i).1 / 8 - ddV (ddP nw nf fl r0 S i).1 / 8 / 7 * 7) - 3) ((ddV (ddP nw nf fl r0 S i).1 / 64 - ddV (ddP nw nf fl r0 S i).1 / 64 / 7 * 7) - 3)) ((ddP nw nf fl r0 S i).2) K1)))))), (ta, .inl (E 1, 4, .inr (.inr (.inl (rT (rjF nw (x3F ((ddV (ddP nw nf fl r0 S i).1 - ddV (ddP nw nf fl r0 S i).1 / 7 * 7) - 3) ((ddV (ddP nw nf fl r0 S i).1 / 8 - ddV (ddP nw nf fl r0 S i).1 / 8 / 7 * 7) - 3) ((ddV (ddP nw nf fl r0 S i).1 / 64 - ddV (ddP nw nf fl r0 S i).1 / 64 / 7 * 7) - 3)) ((ddP nw nf fl r0 S i).2) K1)))))), (ma, .inl (E 1, 3, .inr (.inr (.inl (rM (rjF nw (x3F ((ddV (ddP nw nf fl r0 S i).1 - ddV (ddP nw nf fl r0 S i).1 / 7 * 7) - 3) ((ddV (ddP nw nf fl r0 S i).1 / 8 - ddV (ddP nw nf fl r0 S i).1 / 8 / 7 * 7) - 3) ((ddV (ddP nw nf fl r0 S i).1 / 64 - ddV (ddP nw nf fl r0 S i).1 / 64 / 7 * 7) - 3)) ((ddP nw nf fl r0 S i).2) K1)))))), (sa, .inl (E 0, 9, .inl (g_tv 1))), (pa, .inl (E 0, 29, .inl (pgF S))), (va, .inl (E 1, 5, .inr (.inr (.inl (fl5 S))))), (ua, .inl (E 0, 29, .inl (pgF (tkF nw nf fl (x3F ((ddV (ddP nw nf fl r0 S i).1 - ddV (ddP nw nf fl r0 S i).1 / 7 * 7) - 3) ((ddV (ddP nw nf fl r0 S i).1 / 8 - ddV (ddP nw nf fl r0 S i).1 / 8 / 7 * 7) - 3) ((ddV (ddP nw nf fl r0 S i).1 / 64 - ddV (ddP nw nf fl r0 S i).1 / 64 / 7 * 7) - 3)) ((ddP nw nf fl r0 S i).2))))), (ya, .inl (E 1, 5, .inr (.inr (.inl (fl5 (tkF nw nf fl (x3F ((ddV (ddP nw nf fl r0 S i).1 - ddV (ddP nw nf fl r0 S i).1 / 7 * 7) - 3) ((ddV (ddP nw nf fl r0 S i).1 / 8 - ddV (ddP nw nf fl r0 S i).1 / 8 / 7 * 7) - 3) ((ddV (ddP nw nf fl r0 S i).1 / 64 - ddV (ddP nw nf fl r0 S i).1 / 64 / 7 * 7) - 3)) ((ddP nw nf fl r0 S i).2)))))))] H locs := hw
      have hw : g_W D A s [(o, .inr (6, [.int 0, u1, u2, .ref xa, .int (nI nw), .int (nI nf), .ref fa, u7, u8, u9, u10, .ref pa, .ref va, .ref ua, .ref ya, u15, u16, u17, u18, u19, u20, u21, u22, u23, u24, u25, .long (ddR (ddP nw nf fl r0 S i).1), .ref wa, .ref la, .ref ta, .int (rS (rjF nw (ddX (ddP nw nf fl r0 S i).1) (ddP nw nf fl r0 S i).2 K1)), .int (rN (rjF nw (ddX (ddP nw nf fl r0 S i).1) (ddP nw nf fl r0 S i).2 K1)), .float (rH (rjF nw (ddX (ddP nw nf fl r0 S i).1) (ddP nw nf fl r0 S i).2 K1)), .ref ma, u34, .ref sa])), (xa, .inl (E 0, 12, .inl (g_tv 0))), (fa, .inl (E 0, 18, .inl fl)), (wa, .inl (E 0, 3, .inl (rW (rjF nw (ddX (ddP nw nf fl r0 S i).1) (ddP nw nf fl r0 S i).2 K1)))), (la, .inl (E 1, 4, .inr (.inr (.inl (rP (rjF nw (ddX (ddP nw nf fl r0 S i).1) (ddP nw nf fl r0 S i).2 K1)))))), (ta, .inl (E 1, 4, .inr (.inr (.inl (rT (rjF nw (ddX (ddP nw nf fl r0 S i).1) (ddP nw nf fl r0 S i).2 K1)))))), (ma, .inl (E 1, 3, .inr (.inr (.inl (rM (rjF nw (ddX (ddP nw nf fl r0 S i).1) (ddP nw nf fl r0 S i).2 K1)))))), (sa, .inl (E 0, 9, .inl (g_tv 1))), (pa, .inl (E 0, 29, .inl (pgF S))), (va, .inl (E 1, 5, .inr (.inr (.inl (fl5 S))))), (ua, .inl (E 0, 29, .inl (pgF (tkF nw nf fl (ddX (ddP nw nf fl r0 S i).1) (ddP nw nf fl r0 S i).2)))), (ya, .inl (E 1, 5, .inr (.inr (.inl (fl5 (tkF nw nf fl (ddX (ddP nw nf fl r0 S i).1) (ddP nw nf fl r0 S i).2))))))] H locs := hw
      refine lv_iinc (v := nI (i + 1)) (lv' := [(3, .int (nI (i + 1))), (4, .int (ddV (ddP nw nf fl r0 S i).1)), (0, .ref o), (1, .int (nI n)), (2, .int ((sI S) + (sA S)))]) hx hb dX6_drawn_110 hl (k := 4) rfl (n_inc1 rfl) (by decide) rfl (fun ls hl => ?_)
      refine lv_goto (tgt := 40) hx hb dX6_drawn_113 (by decide) ?_
      have hw : g_W D A s [(o, .inr (6, [.int 0, u1, u2, .ref xa, .int (nI nw), .int (nI nf), .ref fa, u7, u8, u9, u10, .ref pa, .ref va, .ref ua, .ref ya, u15, u16, u17, u18, u19, u20, u21, u22, u23, u24, u25, .long ((ddP nw nf fl r0 S (i + 1)).1), .ref wa, .ref la, .ref ta, .int (rS (rjF nw (ddX (ddP nw nf fl r0 S i).1) (ddP nw nf fl r0 S i).2 K1)), .int (rN (rjF nw (ddX (ddP nw nf fl r0 S i).1) (ddP nw nf fl r0 S i).2 K1)), .float (rH (rjF nw (ddX (ddP nw nf fl r0 S i).1) (ddP nw nf fl r0 S i).2 K1)), .ref ma, u34, .ref sa])), (xa, .inl (E 0, 12, .inl (g_tv 0))), (fa, .inl (E 0, 18, .inl fl)), (wa, .inl (E 0, 3, .inl (rW (rjF nw (ddX (ddP nw nf fl r0 S i).1) (ddP nw nf fl r0 S i).2 K1)))), (la, .inl (E 1, 4, .inr (.inr (.inl (rP (rjF nw (ddX (ddP nw nf fl r0 S i).1) (ddP nw nf fl r0 S i).2 K1)))))), (ta, .inl (E 1, 4, .inr (.inr (.inl (rT (rjF nw (ddX (ddP nw nf fl r0 S i).1) (ddP nw nf fl r0 S i).2 K1)))))), (ma, .inl (E 1, 3, .inr (.inr (.inl (rM (rjF nw (ddX (ddP nw nf fl r0 S i).1) (ddP nw nf fl r0 S i).2 K1)))))), (sa, .inl (E 0, 9, .inl (g_tv 1))), (pa, .inl (E 0, 29, .inl (pgF S))), (va, .inl (E 1, 5, .inr (.inr (.inl (fl5 S))))), (ua, .inl (E 0, 29, .inl (pgF ((ddP nw nf fl r0 S (i + 1)).2)))), (ya, .inl (E 1, 5, .inr (.inr (.inl (fl5 ((ddP nw nf fl r0 S (i + 1)).2))))))] H locs := by
        exact hw
      exact ih (i + 1) (by omega) (rjF nw (ddX (ddP nw nf fl r0 S i).1) (ddP nw nf fl r0 S i).2 K1)  _ _ _ hw (lv_sub hl [2, 3, 4, 0] rfl)
  have hw : g_W D A s [(o, .inr (6, [.int 0, u1, u2, .ref xa, .int (nI nw), .int (nI nf), .ref fa, u7, u8, u9, u10, .ref pa, .ref va, .ref ua, .ref ya, u15, u16, u17, u18, u19, u20, u21, u22, u23, u24, u25, .long ((ddP nw nf fl r0 S 0).1), .ref wa, .ref la, .ref ta, .int (rS K), .int (rN K), .float (rH K), .ref ma, u34, .ref sa])), (xa, .inl (E 0, 12, .inl (g_tv 0))), (fa, .inl (E 0, 18, .inl fl)), (wa, .inl (E 0, 3, .inl (rW K))), (la, .inl (E 1, 4, .inr (.inr (.inl (rP K))))), (ta, .inl (E 1, 4, .inr (.inr (.inl (rT K))))), (ma, .inl (E 1, 3, .inr (.inr (.inl (rM K))))), (sa, .inl (E 0, 9, .inl (g_tv 1))), (pa, .inl (E 0, 29, .inl (pgF S))), (va, .inl (E 1, 5, .inr (.inr (.inl (fl5 S))))), (ua, .inl (E 0, 29, .inl (pgF ((ddP nw nf fl r0 S 0).2)))), (ya, .inl (E 1, 5, .inr (.inr (.inl (fl5 ((ddP nw nf fl r0 S 0).2))))))] H locs := by
    exact hw
  exact J40 n 0 (by omega) K  _ _ _ hw (lv_sub hl [2, 3, 1, 0] rfl)
end P27
