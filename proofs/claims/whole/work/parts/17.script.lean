section P17
theorem dX2_fits_0 : decode cX2_fits 0 = .ok (.iload_n 0, 1) := by decide +kernel
theorem dX2_fits_1 : decode cX2_fits 1 = .ok (.ifCond .ne 15, 3) := by decide +kernel
theorem dX2_fits_4 : decode cX2_fits 4 = .ok (.iload_n 1, 1) := by decide +kernel
theorem dX2_fits_5 : decode cX2_fits 5 = .ok (.bipush 75, 2) := by decide +kernel
theorem dX2_fits_7 : decode cX2_fits 7 = .ok (.if_icmp .ne 7, 3) := by decide +kernel
theorem dX2_fits_10 : decode cX2_fits 10 = .ok (.iconst 1, 1) := by decide +kernel
theorem dX2_fits_11 : decode cX2_fits 11 = .ok (.goto 4, 3) := by decide +kernel
theorem dX2_fits_14 : decode cX2_fits 14 = .ok (.iconst 0, 1) := by decide +kernel
theorem dX2_fits_15 : decode cX2_fits 15 = .ok (.ireturn, 1) := by decide +kernel
theorem dX2_fits_16 : decode cX2_fits 16 = .ok (.iload_n 0, 1) := by decide +kernel
theorem dX2_fits_17 : decode cX2_fits 17 = .ok (.iconst 1, 1) := by decide +kernel
theorem dX2_fits_18 : decode cX2_fits 18 = .ok (.if_icmp .eq 8, 3) := by decide +kernel
theorem dX2_fits_21 : decode cX2_fits 21 = .ok (.iload_n 0, 1) := by decide +kernel
theorem dX2_fits_22 : decode cX2_fits 22 = .ok (.iconst 5, 1) := by decide +kernel
theorem dX2_fits_23 : decode cX2_fits 23 = .ok (.if_icmp .ne 21, 3) := by decide +kernel
theorem dX2_fits_26 : decode cX2_fits 26 = .ok (.iload_n 1, 1) := by decide +kernel
theorem dX2_fits_27 : decode cX2_fits 27 = .ok (.bipush 49, 2) := by decide +kernel
theorem dX2_fits_29 : decode cX2_fits 29 = .ok (.if_icmp .lt 13, 3) := by decide +kernel
theorem dX2_fits_32 : decode cX2_fits 32 = .ok (.iload_n 1, 1) := by decide +kernel
theorem dX2_fits_33 : decode cX2_fits 33 = .ok (.bipush 57, 2) := by decide +kernel
theorem dX2_fits_35 : decode cX2_fits 35 = .ok (.if_icmp .gt 7, 3) := by decide +kernel
theorem dX2_fits_38 : decode cX2_fits 38 = .ok (.iconst 1, 1) := by decide +kernel
theorem dX2_fits_39 : decode cX2_fits 39 = .ok (.goto 4, 3) := by decide +kernel
theorem dX2_fits_42 : decode cX2_fits 42 = .ok (.iconst 0, 1) := by decide +kernel
theorem dX2_fits_43 : decode cX2_fits 43 = .ok (.ireturn, 1) := by decide +kernel
theorem dX2_fits_44 : decode cX2_fits 44 = .ok (.iload_n 0, 1) := by decide +kernel
theorem dX2_fits_45 : decode cX2_fits 45 = .ok (.bipush 6, 2) := by decide +kernel
theorem dX2_fits_47 : decode cX2_fits 47 = .ok (.if_icmp .lt 34, 3) := by decide +kernel
theorem dX2_fits_50 : decode cX2_fits 50 = .ok (.iload_n 0, 1) := by decide +kernel
theorem dX2_fits_51 : decode cX2_fits 51 = .ok (.bipush 6, 2) := by decide +kernel
theorem dX2_fits_53 : decode cX2_fits 53 = .ok (.isub, 1) := by decide +kernel
theorem dX2_fits_54 : decode cX2_fits 54 = .ok (.bipush 7, 2) := by decide +kernel
theorem dX2_fits_56 : decode cX2_fits 56 = .ok (.irem, 1) := by decide +kernel
theorem dX2_fits_57 : decode cX2_fits 57 = .ok (.iconst 2, 1) := by decide +kernel
theorem dX2_fits_58 : decode cX2_fits 58 = .ok (.irem, 1) := by decide +kernel
theorem dX2_fits_59 : decode cX2_fits 59 = .ok (.iconst 1, 1) := by decide +kernel
theorem dX2_fits_60 : decode cX2_fits 60 = .ok (.if_icmp .ne 21, 3) := by decide +kernel
theorem dX2_fits_63 : decode cX2_fits 63 = .ok (.iload_n 1, 1) := by decide +kernel
theorem dX2_fits_64 : decode cX2_fits 64 = .ok (.bipush 43, 2) := by decide +kernel
theorem dX2_fits_66 : decode cX2_fits 66 = .ok (.if_icmp .eq 9, 3) := by decide +kernel
theorem dX2_fits_69 : decode cX2_fits 69 = .ok (.iload_n 1, 1) := by decide +kernel
theorem dX2_fits_70 : decode cX2_fits 70 = .ok (.bipush 45, 2) := by decide +kernel
theorem dX2_fits_72 : decode cX2_fits 72 = .ok (.if_icmp .ne 7, 3) := by decide +kernel
theorem dX2_fits_75 : decode cX2_fits 75 = .ok (.iconst 1, 1) := by decide +kernel
theorem dX2_fits_76 : decode cX2_fits 76 = .ok (.goto 4, 3) := by decide +kernel
theorem dX2_fits_79 : decode cX2_fits 79 = .ok (.iconst 0, 1) := by decide +kernel
theorem dX2_fits_80 : decode cX2_fits 80 = .ok (.ireturn, 1) := by decide +kernel
theorem dX2_fits_81 : decode cX2_fits 81 = .ok (.iload_n 1, 1) := by decide +kernel
theorem dX2_fits_82 : decode cX2_fits 82 = .ok (.bipush 48, 2) := by decide +kernel
theorem dX2_fits_84 : decode cX2_fits 84 = .ok (.if_icmp .lt 13, 3) := by decide +kernel
theorem dX2_fits_87 : decode cX2_fits 87 = .ok (.iload_n 1, 1) := by decide +kernel
theorem dX2_fits_88 : decode cX2_fits 88 = .ok (.bipush 57, 2) := by decide +kernel
theorem dX2_fits_90 : decode cX2_fits 90 = .ok (.if_icmp .gt 7, 3) := by decide +kernel
theorem dX2_fits_93 : decode cX2_fits 93 = .ok (.iconst 1, 1) := by decide +kernel
theorem dX2_fits_94 : decode cX2_fits 94 = .ok (.goto 4, 3) := by decide +kernel
theorem dX2_fits_97 : decode cX2_fits 97 = .ok (.iconst 0, 1) := by decide +kernel
theorem dX2_fits_98 : decode cX2_fits 98 = .ok (.ireturn, 1) := by decide +kernel
set_option maxRecDepth 100000 in
set_option maxHeartbeats 4000000 in
theorem m_X2_fits {l : Launch} {D : va_G} {E : Nat → ClassId} {T : Nat → Nat} (a : Nat) (b : Nat) (ha : a < 200) (hb9 : b < 256) : g_M l D E T yX2_fits wsX2_fits 0 0 [.int (nI a), .int (nI b)] [] [] (some (.int (b2i (decide (fiP a b))))) := by
  refine g_M.of (cc := cX2_fits) (nL := 2) (ret := (some .boolean)) (own := RX2) (lv := [(0, .int (nI a)), (1, .int (nI b))]) (by decide) rfl rfl (Nat.le_of_ble_eq_true rfl) rfl ?_
  intro p e R s m args below meth c A Q H locs ls hR hQ hc hr hw hl
  have hx := hc.1
  have hb := hc.2.1
  have hts := hc.2.2.2.1
  have hown := hc.2.2.2.2.1
  refine lv_iload_n hx hb dX2_fits_0 rfl (lv_at hl 0 rfl) ?_
  refine lv_if_ne (tgt := 16) hx hb dX2_fits_1 (by decide) (fun c_1 => ?_) (fun c_1 => ?_)
  · skip
    have n_1 : ¬ a = 0 := nf_neT rfl rfl (by omega) (by omega) c_1
    refine lv_iload_n hx hb dX2_fits_16 rfl (lv_at hl 0 rfl) ?_
    refine lv_iconst (v := 1) hx hb dX2_fits_17 (by decide) ?_
    refine lv_icmp_eq (tgt := 26) hx hb dX2_fits_18 (by decide) (fun c_18 => ?_) (fun c_18 => ?_)
    · skip
      have n_18 : a = 1 := nf_eqT rfl rfl (by omega) (by omega) c_18
      refine lv_iload_n hx hb dX2_fits_26 rfl (lv_at hl 1 rfl) ?_
      refine lv_bipush (v := 49) hx hb dX2_fits_27 (by decide) ?_
      refine lv_icmp_lt (tgt := 42) hx hb dX2_fits_29 (by decide) (fun c_29 => ?_) (fun c_29 => ?_)
      · skip
        have n_29 : b < 49 := nf_ltT rfl rfl (by omega) (by omega) c_29
        refine lv_iconst (v := 0) hx hb dX2_fits_42 (by decide) ?_
        exact g_zret hQ hc hw hr (by exact congrArg (fun z => some (Value.int z)) (b2i_0 (by show ¬ fiP a b; unfold fiP; omega))) (by first | rfl | (split <;> rfl) | exact g_nb _) rfl dX2_fits_43
      · skip
        have n_29 : 49 ≤ b := nf_ltF rfl rfl (by omega) (by omega) c_29
        refine lv_iload_n hx hb dX2_fits_32 rfl (lv_at hl 1 rfl) ?_
        refine lv_bipush (v := 57) hx hb dX2_fits_33 (by decide) ?_
        refine lv_icmp_gt (tgt := 42) hx hb dX2_fits_35 (by decide) (fun c_35 => ?_) (fun c_35 => ?_)
        · skip
          have n_35 : 57 < b := nf_gtT rfl rfl (by omega) (by omega) c_35
          refine lv_iconst (v := 0) hx hb dX2_fits_42 (by decide) ?_
          exact g_zret hQ hc hw hr (by exact congrArg (fun z => some (Value.int z)) (b2i_0 (by show ¬ fiP a b; unfold fiP; omega))) (by first | rfl | (split <;> rfl) | exact g_nb _) rfl dX2_fits_43
        · skip
          have n_35 : b ≤ 57 := nf_gtF rfl rfl (by omega) (by omega) c_35
          refine lv_iconst (v := 1) hx hb dX2_fits_38 (by decide) ?_
          refine lv_goto (tgt := 43) hx hb dX2_fits_39 (by decide) ?_
          exact g_zret hQ hc hw hr (by exact congrArg (fun z => some (Value.int z)) (b2i_1 (by show  fiP a b; unfold fiP; omega))) (by first | rfl | (split <;> rfl) | exact g_nb _) rfl dX2_fits_43
    · skip
      have n_18 : ¬ a = 1 := nf_eqF rfl rfl (by omega) (by omega) c_18
      refine lv_iload_n hx hb dX2_fits_21 rfl (lv_at hl 0 rfl) ?_
      refine lv_iconst (v := 5) hx hb dX2_fits_22 (by decide) ?_
      refine lv_icmp_ne (tgt := 44) hx hb dX2_fits_23 (by decide) (fun c_23 => ?_) (fun c_23 => ?_)
      · skip
        have n_23 : ¬ a = 5 := nf_neT rfl rfl (by omega) (by omega) c_23
        refine lv_iload_n hx hb dX2_fits_44 rfl (lv_at hl 0 rfl) ?_
        refine lv_bipush (v := 6) hx hb dX2_fits_45 (by decide) ?_
        refine lv_icmp_lt (tgt := 81) hx hb dX2_fits_47 (by decide) (fun c_47 => ?_) (fun c_47 => ?_)
        · skip
          have n_47 : a < 6 := nf_ltT rfl rfl (by omega) (by omega) c_47
          refine lv_iload_n hx hb dX2_fits_81 rfl (lv_at hl 1 rfl) ?_
          refine lv_bipush (v := 48) hx hb dX2_fits_82 (by decide) ?_
          refine lv_icmp_lt (tgt := 97) hx hb dX2_fits_84 (by decide) (fun c_84 => ?_) (fun c_84 => ?_)
          · skip
            have n_84 : b < 48 := nf_ltT rfl rfl (by omega) (by omega) c_84
            refine lv_iconst (v := 0) hx hb dX2_fits_97 (by decide) ?_
            exact g_zret hQ hc hw hr (by exact congrArg (fun z => some (Value.int z)) (b2i_0 (by show ¬ fiP a b; unfold fiP; omega))) (by first | rfl | (split <;> rfl) | exact g_nb _) rfl dX2_fits_98
          · skip
            have n_84 : 48 ≤ b := nf_ltF rfl rfl (by omega) (by omega) c_84
            refine lv_iload_n hx hb dX2_fits_87 rfl (lv_at hl 1 rfl) ?_
            refine lv_bipush (v := 57) hx hb dX2_fits_88 (by decide) ?_
            refine lv_icmp_gt (tgt := 97) hx hb dX2_fits_90 (by decide) (fun c_90 => ?_) (fun c_90 => ?_)
            · skip
              have n_90 : 57 < b := nf_gtT rfl rfl (by omega) (by omega) c_90
              refine lv_iconst (v := 0) hx hb dX2_fits_97 (by decide) ?_
              exact g_zret hQ hc hw hr (by exact congrArg (fun z => some (Value.int z)) (b2i_0 (by show ¬ fiP a b; unfold fiP; omega))) (by first | rfl | (split <;> rfl) | exact g_nb _) rfl dX2_fits_98
            · skip
              have n_90 : b ≤ 57 := nf_gtF rfl rfl (by omega) (by omega) c_90
              refine lv_iconst (v := 1) hx hb dX2_fits_93 (by decide) ?_
              refine lv_goto (tgt := 98) hx hb dX2_fits_94 (by decide) ?_
              exact g_zret hQ hc hw hr (by exact congrArg (fun z => some (Value.int z)) (b2i_1 (by show  fiP a b; unfold fiP; omega))) (by first | rfl | (split <;> rfl) | exact g_nb _) rfl dX2_fits_98
        · skip
          have n_47 : 6 ≤ a := nf_ltF rfl rfl (by omega) (by omega) c_47
          refine lv_iload_n hx hb dX2_fits_50 rfl (lv_at hl 0 rfl) ?_
          refine lv_bipush (v := 6) hx hb dX2_fits_51 (by decide) ?_
          refine lv_isub hx hb dX2_fits_53 ?_
          refine lv_bipush (v := 7) hx hb dX2_fits_54 (by decide) ?_
          refine lv_irem hx hb dX2_fits_56 (by decide) ?_
          refine lv_iconst (v := 2) hx hb dX2_fits_57 (by decide) ?_
          refine lv_irem hx hb dX2_fits_58 (by decide) ?_
          refine lv_iconst (v := 1) hx hb dX2_fits_59 (by decide) ?_
          refine lv_icmp_ne (tgt := 81) hx hb dX2_fits_60 (by decide) (fun c_60 => ?_) (fun c_60 => ?_)
          · skip
            have n_60 : ¬ (((a - 6) % 7) % 2) = 1 := nf_neT (n_rem (n_rem (n_sub rfl rfl (by omega)) rfl (by omega) (by omega) (by omega)) rfl (by omega) (by omega) (by omega)) rfl (by omega) (by omega) c_60
            refine lv_iload_n hx hb dX2_fits_81 rfl (lv_at hl 1 rfl) ?_
            refine lv_bipush (v := 48) hx hb dX2_fits_82 (by decide) ?_
            refine lv_icmp_lt (tgt := 97) hx hb dX2_fits_84 (by decide) (fun c_84 => ?_) (fun c_84 => ?_)
            · skip
              have n_84 : b < 48 := nf_ltT rfl rfl (by omega) (by omega) c_84
              refine lv_iconst (v := 0) hx hb dX2_fits_97 (by decide) ?_
              exact g_zret hQ hc hw hr (by exact congrArg (fun z => some (Value.int z)) (b2i_0 (by show ¬ fiP a b; unfold fiP; omega))) (by first | rfl | (split <;> rfl) | exact g_nb _) rfl dX2_fits_98
            · skip
              have n_84 : 48 ≤ b := nf_ltF rfl rfl (by omega) (by omega) c_84
              refine lv_iload_n hx hb dX2_fits_87 rfl (lv_at hl 1 rfl) ?_
              refine lv_bipush (v := 57) hx hb dX2_fits_88 (by decide) ?_
              refine lv_icmp_gt (tgt := 97) hx hb dX2_fits_90 (by decide) (fun c_90 => ?_) (fun c_90 => ?_)
              · skip
                have n_90 : 57 < b := nf_gtT rfl rfl (by omega) (by omega) c_90
                refine lv_iconst (v := 0) hx hb dX2_fits_97 (by decide) ?_
                exact g_zret hQ hc hw hr (by exact congrArg (fun z => some (Value.int z)) (b2i_0 (by show ¬ fiP a b; unfold fiP; omega))) (by first | rfl | (split <;> rfl) | exact g_nb _) rfl dX2_fits_98
              · skip
                have n_90 : b ≤ 57 := nf_gtF rfl rfl (by omega) (by omega) c_90
                refine lv_iconst (v := 1) hx hb dX2_fits_93 (by decide) ?_
                refine lv_goto (tgt := 98) hx hb dX2_fits_94 (by decide) ?_
                exact g_zret hQ hc hw hr (by exact congrArg (fun z => some (Value.int z)) (b2i_1 (by show  fiP a b; unfold fiP; omega))) (by first | rfl | (split <;> rfl) | exact g_nb _) rfl dX2_fits_98
          · skip
            have n_60 : (((a - 6) % 7) % 2) = 1 := nf_neF (n_rem (n_rem (n_sub rfl rfl (by omega)) rfl (by omega) (by omega) (by omega)) rfl (by omega) (by omega) (by omega)) rfl (by omega) (by omega) c_60
            refine lv_iload_n hx hb dX2_fits_63 rfl (lv_at hl 1 rfl) ?_
            refine lv_bipush (v := 43) hx hb dX2_fits_64 (by decide) ?_
            refine lv_icmp_eq (tgt := 75) hx hb dX2_fits_66 (by decide) (fun c_66 => ?_) (fun c_66 => ?_)
            · skip
              have n_66 : b = 43 := nf_eqT rfl rfl (by omega) (by omega) c_66
              refine lv_iconst (v := 1) hx hb dX2_fits_75 (by decide) ?_
              refine lv_goto (tgt := 80) hx hb dX2_fits_76 (by decide) ?_
              exact g_zret hQ hc hw hr (by exact congrArg (fun z => some (Value.int z)) (b2i_1 (by show  fiP a b; unfold fiP; omega))) (by first | rfl | (split <;> rfl) | exact g_nb _) rfl dX2_fits_80
            · skip
              have n_66 : ¬ b = 43 := nf_eqF rfl rfl (by omega) (by omega) c_66
              refine lv_iload_n hx hb dX2_fits_69 rfl (lv_at hl 1 rfl) ?_
              refine lv_bipush (v := 45) hx hb dX2_fits_70 (by decide) ?_
              refine lv_icmp_ne (tgt := 79) hx hb dX2_fits_72 (by decide) (fun c_72 => ?_) (fun c_72 => ?_)
              · skip
                have n_72 : ¬ b = 45 := nf_neT rfl rfl (by omega) (by omega) c_72
                refine lv_iconst (v := 0) hx hb dX2_fits_79 (by decide) ?_
                exact g_zret hQ hc hw hr (by exact congrArg (fun z => some (Value.int z)) (b2i_0 (by show ¬ fiP a b; unfold fiP; omega))) (by first | rfl | (split <;> rfl) | exact g_nb _) rfl dX2_fits_80
              · skip
                have n_72 : b = 45 := nf_neF rfl rfl (by omega) (by omega) c_72
                refine lv_iconst (v := 1) hx hb dX2_fits_75 (by decide) ?_
                refine lv_goto (tgt := 80) hx hb dX2_fits_76 (by decide) ?_
                exact g_zret hQ hc hw hr (by exact congrArg (fun z => some (Value.int z)) (b2i_1 (by show  fiP a b; unfold fiP; omega))) (by first | rfl | (split <;> rfl) | exact g_nb _) rfl dX2_fits_80
      · skip
        have n_23 : a = 5 := nf_neF rfl rfl (by omega) (by omega) c_23
        refine lv_iload_n hx hb dX2_fits_26 rfl (lv_at hl 1 rfl) ?_
        refine lv_bipush (v := 49) hx hb dX2_fits_27 (by decide) ?_
        refine lv_icmp_lt (tgt := 42) hx hb dX2_fits_29 (by decide) (fun c_29 => ?_) (fun c_29 => ?_)
        · skip
          have n_29 : b < 49 := nf_ltT rfl rfl (by omega) (by omega) c_29
          refine lv_iconst (v := 0) hx hb dX2_fits_42 (by decide) ?_
          exact g_zret hQ hc hw hr (by exact congrArg (fun z => some (Value.int z)) (b2i_0 (by show ¬ fiP a b; unfold fiP; omega))) (by first | rfl | (split <;> rfl) | exact g_nb _) rfl dX2_fits_43
        · skip
          have n_29 : 49 ≤ b := nf_ltF rfl rfl (by omega) (by omega) c_29
          refine lv_iload_n hx hb dX2_fits_32 rfl (lv_at hl 1 rfl) ?_
          refine lv_bipush (v := 57) hx hb dX2_fits_33 (by decide) ?_
          refine lv_icmp_gt (tgt := 42) hx hb dX2_fits_35 (by decide) (fun c_35 => ?_) (fun c_35 => ?_)
          · skip
            have n_35 : 57 < b := nf_gtT rfl rfl (by omega) (by omega) c_35
            refine lv_iconst (v := 0) hx hb dX2_fits_42 (by decide) ?_
            exact g_zret hQ hc hw hr (by exact congrArg (fun z => some (Value.int z)) (b2i_0 (by show ¬ fiP a b; unfold fiP; omega))) (by first | rfl | (split <;> rfl) | exact g_nb _) rfl dX2_fits_43
          · skip
            have n_35 : b ≤ 57 := nf_gtF rfl rfl (by omega) (by omega) c_35
            refine lv_iconst (v := 1) hx hb dX2_fits_38 (by decide) ?_
            refine lv_goto (tgt := 43) hx hb dX2_fits_39 (by decide) ?_
            exact g_zret hQ hc hw hr (by exact congrArg (fun z => some (Value.int z)) (b2i_1 (by show  fiP a b; unfold fiP; omega))) (by first | rfl | (split <;> rfl) | exact g_nb _) rfl dX2_fits_43
  · skip
    have n_1 : a = 0 := nf_neF rfl rfl (by omega) (by omega) c_1
    refine lv_iload_n hx hb dX2_fits_4 rfl (lv_at hl 1 rfl) ?_
    refine lv_bipush (v := 75) hx hb dX2_fits_5 (by decide) ?_
    refine lv_icmp_ne (tgt := 14) hx hb dX2_fits_7 (by decide) (fun c_7 => ?_) (fun c_7 => ?_)
    · skip
      have n_7 : ¬ b = 75 := nf_neT rfl rfl (by omega) (by omega) c_7
      refine lv_iconst (v := 0) hx hb dX2_fits_14 (by decide) ?_
      exact g_zret hQ hc hw hr (by exact congrArg (fun z => some (Value.int z)) (b2i_0 (by show ¬ fiP a b; unfold fiP; omega))) (by first | rfl | (split <;> rfl) | exact g_nb _) rfl dX2_fits_15
    · skip
      have n_7 : b = 75 := nf_neF rfl rfl (by omega) (by omega) c_7
      refine lv_iconst (v := 1) hx hb dX2_fits_10 (by decide) ?_
      refine lv_goto (tgt := 15) hx hb dX2_fits_11 (by decide) ?_
      exact g_zret hQ hc hw hr (by exact congrArg (fun z => some (Value.int z)) (b2i_1 (by show  fiP a b; unfold fiP; omega))) (by first | rfl | (split <;> rfl) | exact g_nb _) rfl dX2_fits_15

theorem dX2_append_0 : decode cX2_append 0 = .ok (.aload_n 0, 1) := by decide +kernel
theorem dX2_append_1 : decode cX2_append 1 = .ok (.getfield 15, 3) := by decide +kernel
theorem dX2_append_4 : decode cX2_append 4 = .ok (.ifCond .lt 12, 3) := by decide +kernel
theorem dX2_append_7 : decode cX2_append 7 = .ok (.aload_n 0, 1) := by decide +kernel
theorem dX2_append_8 : decode cX2_append 8 = .ok (.getfield 15, 3) := by decide +kernel
theorem dX2_append_11 : decode cX2_append 11 = .ok (.bipush 120, 2) := by decide +kernel
theorem dX2_append_13 : decode cX2_append 13 = .ok (.if_icmp .lt 5, 3) := by decide +kernel
theorem dX2_append_18 : decode cX2_append 18 = .ok (.aload_n 0, 1) := by decide +kernel
theorem dX2_append_19 : decode cX2_append 19 = .ok (.getfield 9, 3) := by decide +kernel
theorem dX2_append_22 : decode cX2_append 22 = .ok (.aload_n 0, 1) := by decide +kernel
theorem dX2_append_23 : decode cX2_append 23 = .ok (.getfield 15, 3) := by decide +kernel
theorem dX2_append_26 : decode cX2_append 26 = .ok (.iload_n 1, 1) := by decide +kernel
theorem dX2_append_27 : decode cX2_append 27 = .ok (.castore, 1) := by decide +kernel
theorem dX2_append_28 : decode cX2_append 28 = .ok (.aload_n 0, 1) := by decide +kernel
theorem dX2_append_29 : decode cX2_append 29 = .ok (.dup, 1) := by decide +kernel
theorem dX2_append_30 : decode cX2_append 30 = .ok (.getfield 15, 3) := by decide +kernel
theorem dX2_append_33 : decode cX2_append 33 = .ok (.iconst 1, 1) := by decide +kernel
theorem dX2_append_34 : decode cX2_append 34 = .ok (.iadd, 1) := by decide +kernel
theorem dX2_append_35 : decode cX2_append 35 = .ok (.putfield 15, 3) := by decide +kernel
theorem dX2_append_38 : decode cX2_append 38 = .ok (.iconst 1, 1) := by decide +kernel
theorem dX2_append_39 : decode cX2_append 39 = .ok (.ireturn, 1) := by decide +kernel
theorem inX2_append_X2 : ∀ w ∈ u_ws RX2 TX2 2, w ∈ wsX2_append := fun w h => List.mem_cons_of_mem _ (List.mem_append_right _ h)
set_option maxRecDepth 100000 in
set_option maxHeartbeats 4000000 in
theorem m_X2_append {l : Launch} {D : va_G} {E : Nat → ClassId} {T : Nat → Nat} (sc : Nat) (tx : Nat) (len : Nat) (k : Nat) (tt : Nat → Nat) (hl9 : len < 120) (hk : k < 256) : g_M l D E T yX2_append wsX2_append 0 0 [.ref sc, .int (nI k)] [(sc, .inr (2, [.ref tx, .int (nI len)])), (tx, .inl (E 2, 120, .inl (txF tt)))] [(sc, .inr (2, [.ref tx, .int (nI (len + 1))])), (tx, .inl (E 2, 120, .inl (txF (tU tt len k))))] (some (.int (b2i true))) := by
  refine g_M.of (cc := cX2_append) (nL := 2) (ret := (some .boolean)) (own := RX2) (lv := [(0, .ref sc), (1, .int (nI k))]) (by decide) rfl rfl (Nat.le_of_ble_eq_true rfl) rfl ?_
  intro p e R s m args below meth c A Q H locs ls hR hQ hc hr hw hl
  have hx := hc.1
  have hb := hc.2.1
  have hts := hc.2.2.2.1
  have hown := hc.2.2.2.2.1
  refine lv_aload_n hx hb dX2_append_0 rfl (lv_at hl 0 rfl) ?_
  refine g_get (TT := TX2) hc hw inX2_append_X2 0 1 1 rfl rfl (by decide) rfl rfl dX2_append_1 ?_
  refine lv_if_lt (tgt := 16) hx hb dX2_append_4 (by decide) (fun c_4 => absurd c_4 (nI_pos (by omega))) (fun c_4 => ?_)
  refine lv_aload_n hx hb dX2_append_7 rfl (lv_at hl 0 rfl) ?_
  refine g_get (TT := TX2) hc hw inX2_append_X2 0 1 1 rfl rfl (by decide) rfl rfl dX2_append_8 ?_
  refine lv_bipush (v := 120) hx hb dX2_append_11 (by decide) ?_
  refine lv_icmp_lt (tgt := 18) hx hb dX2_append_13 (by decide) (fun c_13 => ?_) (fun c_13 => absurd (nI_lt (show len < 120 by omega) (by omega)) c_13)
  refine lv_aload_n hx hb dX2_append_18 rfl (lv_at hl 0 rfl) ?_
  refine g_get (TT := TX2) hc hw inX2_append_X2 0 0 2 rfl rfl (by decide) rfl rfl dX2_append_19 ?_
  refine lv_aload_n hx hb dX2_append_22 rfl (lv_at hl 0 rfl) ?_
  refine g_get (TT := TX2) hc hw inX2_append_X2 0 1 1 rfl rfl (by decide) rfl rfl dX2_append_23 ?_
  refine lv_iload_n hx hb dX2_append_26 rfl (lv_at hl 1 rfl) ?_
  refine g_cst (x' := nI k) hc hw 1 len rfl rfl (by omega) (by decide) (nar_ch (by omega)) dX2_append_27 (fun H locs hw => ?_)
  have hw : g_W D A s [(sc, .inr (2, [.ref tx, .int (nI len)])), (tx, .inl (E 2, 120, .inl (upd (txF tt) len (nI k))))] H locs := hw
  rw [tx_U] at hw
  have hw : g_W D A s [(sc, .inr (2, [.ref tx, .int (nI len)])), (tx, .inl (E 2, 120, .inl (txF (tU tt len k))))] H locs := hw
  refine lv_aload_n hx hb dX2_append_28 rfl (lv_at hl 0 rfl) ?_
  refine lv_dup hx hb dX2_append_29 rfl ?_
  refine g_get (TT := TX2) hc hw inX2_append_X2 0 1 1 rfl rfl (by decide) rfl rfl dX2_append_30 ?_
  refine lv_iconst (v := 1) hx hb dX2_append_33 (by decide) ?_
  refine lv_iadd hx hb dX2_append_34 ?_
  refine W.eq (congrArg (fun z => F0 m 35 ls (.int z :: [.ref sc])) (show ((nI len) + 1 : Int32) = nI (len + 1) from (n_add rfl rfl))) ?_
  refine g_put (TT := TX2) hc hw inX2_append_X2 tyX2 tyX2_ok nmX2 0 1 1 rfl rfl (by decide) rfl rfl rfl rfl (Nat.le_of_ble_eq_true rfl) dX2_append_35 (fun H locs hw => ?_)
  have hw : g_W D A s [(sc, .inr (2, [.ref tx, .int (nI (len + 1))])), (tx, .inl (E 2, 120, .inl (txF (tU tt len k))))] H locs := hw
  refine lv_iconst (v := 1) hx hb dX2_append_38 (by decide) ?_
  exact g_zret hQ hc hw hr rfl (by first | rfl | (split <;> rfl) | exact g_nb _) rfl dX2_append_39

theorem dX2_append_16 : decode cX2_append 16 = .ok (.iconst 0, 1) := by decide +kernel
theorem dX2_append_17 : decode cX2_append 17 = .ok (.ireturn, 1) := by decide +kernel
set_option maxRecDepth 100000 in
set_option maxHeartbeats 4000000 in
theorem m_X2_append_full {l : Launch} {D : va_G} {E : Nat → ClassId} {T : Nat → Nat} (sc : Nat) (tx : Nat) (len : Nat) (k : Nat) (tt : Nat → Nat) (hl9 : len = 120) : g_M l D E T yX2_append wsX2_append 0 0 [.ref sc, .int (nI k)] [(sc, .inr (2, [.ref tx, .int (nI len)])), (tx, .inl (E 2, 120, .inl (txF tt)))] [(sc, .inr (2, [.ref tx, .int (nI len)])), (tx, .inl (E 2, 120, .inl (txF tt)))] (some (.int (b2i false))) := by
  refine g_M.of (cc := cX2_append) (nL := 2) (ret := (some .boolean)) (own := RX2) (lv := [(0, .ref sc), (1, .int (nI k))]) (by decide) rfl rfl (Nat.le_of_ble_eq_true rfl) rfl ?_
  intro p e R s m args below meth c A Q H locs ls hR hQ hc hr hw hl
  have hx := hc.1
  have hb := hc.2.1
  have hts := hc.2.2.2.1
  have hown := hc.2.2.2.2.1
  refine lv_aload_n hx hb dX2_append_0 rfl (lv_at hl 0 rfl) ?_
  refine g_get (TT := TX2) hc hw inX2_append_X2 0 1 1 rfl rfl (by decide) rfl rfl dX2_append_1 ?_
  refine lv_if_lt (tgt := 16) hx hb dX2_append_4 (by decide) (fun c_4 => absurd c_4 (nI_pos (by omega))) (fun c_4 => ?_)
  refine lv_aload_n hx hb dX2_append_7 rfl (lv_at hl 0 rfl) ?_
  refine g_get (TT := TX2) hc hw inX2_append_X2 0 1 1 rfl rfl (by decide) rfl rfl dX2_append_8 ?_
  refine lv_bipush (v := 120) hx hb dX2_append_11 (by decide) ?_
  refine lv_icmp_lt (tgt := 18) hx hb dX2_append_13 (by decide) (fun c_13 => absurd c_13 (by rw [hl9]; decide)) (fun c_13 => ?_)
  refine lv_iconst (v := 0) hx hb dX2_append_16 (by decide) ?_
  exact g_zret hQ hc hw hr rfl (by first | rfl | (split <;> rfl) | exact g_nb _) rfl dX2_append_17

theorem dX2_digit_0 : decode cX2_digit 0 = .ok (.aload_n 0, 1) := by decide +kernel
theorem dX2_digit_1 : decode cX2_digit 1 = .ok (.getfield 9, 3) := by decide +kernel
theorem dX2_digit_4 : decode cX2_digit 4 = .ok (.iload_n 1, 1) := by decide +kernel
theorem dX2_digit_5 : decode cX2_digit 5 = .ok (.caload, 1) := by decide +kernel
theorem dX2_digit_6 : decode cX2_digit 6 = .ok (.bipush 48, 2) := by decide +kernel
theorem dX2_digit_8 : decode cX2_digit 8 = .ok (.isub, 1) := by decide +kernel
theorem dX2_digit_9 : decode cX2_digit 9 = .ok (.ireturn, 1) := by decide +kernel
theorem inX2_digit_X2 : ∀ w ∈ u_ws RX2 TX2 2, w ∈ wsX2_digit := fun w h => List.mem_cons_of_mem _ (List.mem_append_right _ h)
set_option maxRecDepth 100000 in
set_option maxHeartbeats 4000000 in
theorem m_X2_digit {l : Launch} {D : va_G} {E : Nat → ClassId} {T : Nat → Nat} (sc : Nat) (tx : Nat) (k : Nat) (x1 : Value) (tt : Nat → Nat) (hk : k < 120) : g_M l D E T yX2_digit wsX2_digit 0 0 [.ref sc, .int (nI k)] [(sc, .inr (2, [.ref tx, x1])), (tx, .inl (E 2, 120, .inl (txF tt)))] [(sc, .inr (2, [.ref tx, x1])), (tx, .inl (E 2, 120, .inl (txF tt)))] (some (.int (dgF tt k))) := by
  refine g_M.of (cc := cX2_digit) (nL := 2) (ret := (some .int)) (own := RX2) (lv := [(0, .ref sc), (1, .int (nI k))]) (by decide) rfl rfl (Nat.le_of_ble_eq_true rfl) rfl ?_
  intro p e R s m args below meth c A Q H locs ls hR hQ hc hr hw hl
  have hx := hc.1
  have hb := hc.2.1
  have hts := hc.2.2.2.1
  have hown := hc.2.2.2.2.1
  refine lv_aload_n hx hb dX2_digit_0 rfl (lv_at hl 0 rfl) ?_
  refine g_get (TT := TX2) hc hw inX2_digit_X2 0 0 1 rfl rfl (by decide) rfl rfl dX2_digit_1 ?_
  refine lv_iload_n hx hb dX2_digit_4 rfl (lv_at hl 1 rfl) ?_
  refine g_cld hc hw 1 k rfl rfl (by omega) (by decide) dX2_digit_5 ?_
  refine lv_bipush (v := 48) hx hb dX2_digit_6 (by decide) ?_
  refine lv_isub hx hb dX2_digit_8 ?_
  exact g_iret hQ hc hw hr rfl rfl dX2_digit_9

theorem dX2_faultAt_0 : decode cX2_faultAt 0 = .ok (.iconst 0, 1) := by decide +kernel
theorem dX2_faultAt_1 : decode cX2_faultAt 1 = .ok (.istore_n 1, 1) := by decide +kernel
theorem dX2_faultAt_2 : decode cX2_faultAt 2 = .ok (.iconst 0, 1) := by decide +kernel
theorem dX2_faultAt_3 : decode cX2_faultAt 3 = .ok (.istore_n 2, 1) := by decide +kernel
theorem dX2_faultAt_4 : decode cX2_faultAt 4 = .ok (.iconst 0, 1) := by decide +kernel
theorem dX2_faultAt_5 : decode cX2_faultAt 5 = .ok (.istore_n 3, 1) := by decide +kernel
theorem dX2_faultAt_6 : decode cX2_faultAt 6 = .ok (.iload_n 3, 1) := by decide +kernel
theorem dX2_faultAt_7 : decode cX2_faultAt 7 = .ok (.aload_n 0, 1) := by decide +kernel
theorem dX2_faultAt_8 : decode cX2_faultAt 8 = .ok (.getfield 15, 3) := by decide +kernel
theorem dX2_faultAt_11 : decode cX2_faultAt 11 = .ok (.if_icmp .ge 90, 3) := by decide +kernel
theorem dX2_faultAt_14 : decode cX2_faultAt 14 = .ok (.iload_n 3, 1) := by decide +kernel
theorem dX2_faultAt_15 : decode cX2_faultAt 15 = .ok (.bipush 120, 2) := by decide +kernel
theorem dX2_faultAt_17 : decode cX2_faultAt 17 = .ok (.if_icmp .ge 84, 3) := by decide +kernel
theorem dX2_faultAt_20 : decode cX2_faultAt 20 = .ok (.aload_n 0, 1) := by decide +kernel
theorem dX2_faultAt_21 : decode cX2_faultAt 21 = .ok (.getfield 9, 3) := by decide +kernel
theorem dX2_faultAt_24 : decode cX2_faultAt 24 = .ok (.iload_n 3, 1) := by decide +kernel
theorem dX2_faultAt_25 : decode cX2_faultAt 25 = .ok (.caload, 1) := by decide +kernel
theorem dX2_faultAt_26 : decode cX2_faultAt 26 = .ok (.istore 4, 2) := by decide +kernel
theorem dX2_faultAt_28 : decode cX2_faultAt 28 = .ok (.iload_n 3, 1) := by decide +kernel
theorem dX2_faultAt_29 : decode cX2_faultAt 29 = .ok (.bipush 6, 2) := by decide +kernel
theorem dX2_faultAt_31 : decode cX2_faultAt 31 = .ok (.if_icmp .lt 53, 3) := by decide +kernel
theorem dX2_faultAt_34 : decode cX2_faultAt 34 = .ok (.iload_n 3, 1) := by decide +kernel
theorem dX2_faultAt_35 : decode cX2_faultAt 35 = .ok (.bipush 6, 2) := by decide +kernel
theorem dX2_faultAt_37 : decode cX2_faultAt 37 = .ok (.isub, 1) := by decide +kernel
theorem dX2_faultAt_38 : decode cX2_faultAt 38 = .ok (.bipush 7, 2) := by decide +kernel
theorem dX2_faultAt_40 : decode cX2_faultAt 40 = .ok (.irem, 1) := by decide +kernel
theorem dX2_faultAt_41 : decode cX2_faultAt 41 = .ok (.ifCond .ne 43, 3) := by decide +kernel
theorem dX2_faultAt_44 : decode cX2_faultAt 44 = .ok (.iload 4, 2) := by decide +kernel
theorem dX2_faultAt_46 : decode cX2_faultAt 46 = .ok (.bipush 119, 2) := by decide +kernel
theorem dX2_faultAt_48 : decode cX2_faultAt 48 = .ok (.if_icmp .ne 15, 3) := by decide +kernel
theorem dX2_faultAt_51 : decode cX2_faultAt 51 = .ok (.iload_n 1, 1) := by decide +kernel
theorem dX2_faultAt_52 : decode cX2_faultAt 52 = .ok (.bipush 6, 2) := by decide +kernel
theorem dX2_faultAt_54 : decode cX2_faultAt 54 = .ok (.if_icmp .ge 9, 3) := by decide +kernel
theorem dX2_faultAt_57 : decode cX2_faultAt 57 = .ok (.iinc 1 1, 3) := by decide +kernel
theorem dX2_faultAt_60 : decode cX2_faultAt 60 = .ok (.goto 35, 3) := by decide +kernel
theorem dX2_faultAt_63 : decode cX2_faultAt 63 = .ok (.iload 4, 2) := by decide +kernel
theorem dX2_faultAt_65 : decode cX2_faultAt 65 = .ok (.bipush 102, 2) := by decide +kernel
theorem dX2_faultAt_67 : decode cX2_faultAt 67 = .ok (.if_icmp .ne 15, 3) := by decide +kernel
theorem dX2_faultAt_70 : decode cX2_faultAt 70 = .ok (.iload_n 2, 1) := by decide +kernel
theorem dX2_faultAt_71 : decode cX2_faultAt 71 = .ok (.bipush 6, 2) := by decide +kernel
theorem dX2_faultAt_73 : decode cX2_faultAt 73 = .ok (.if_icmp .ge 9, 3) := by decide +kernel
theorem dX2_faultAt_76 : decode cX2_faultAt 76 = .ok (.iinc 2 1, 3) := by decide +kernel
theorem dX2_faultAt_79 : decode cX2_faultAt 79 = .ok (.goto 16, 3) := by decide +kernel
theorem dX2_faultAt_82 : decode cX2_faultAt 82 = .ok (.iload_n 3, 1) := by decide +kernel
theorem dX2_faultAt_83 : decode cX2_faultAt 83 = .ok (.ireturn, 1) := by decide +kernel
theorem dX2_faultAt_84 : decode cX2_faultAt 84 = .ok (.iload_n 3, 1) := by decide +kernel
theorem dX2_faultAt_85 : decode cX2_faultAt 85 = .ok (.iload 4, 2) := by decide +kernel
theorem dX2_faultAt_87 : decode cX2_faultAt 87 = .ok (.invokestatic 19, 3) := by decide +kernel
theorem dX2_faultAt_90 : decode cX2_faultAt 90 = .ok (.ifCond .ne 5, 3) := by decide +kernel
theorem dX2_faultAt_93 : decode cX2_faultAt 93 = .ok (.iload_n 3, 1) := by decide +kernel
theorem dX2_faultAt_94 : decode cX2_faultAt 94 = .ok (.ireturn, 1) := by decide +kernel
theorem dX2_faultAt_95 : decode cX2_faultAt 95 = .ok (.iinc 3 1, 3) := by decide +kernel
theorem dX2_faultAt_98 : decode cX2_faultAt 98 = .ok (.goto (-92), 3) := by decide +kernel
theorem dX2_faultAt_101 : decode cX2_faultAt 101 = .ok (.aload_n 0, 1) := by decide +kernel
theorem dX2_faultAt_102 : decode cX2_faultAt 102 = .ok (.getfield 15, 3) := by decide +kernel
theorem dX2_faultAt_105 : decode cX2_faultAt 105 = .ok (.bipush 6, 2) := by decide +kernel
theorem dX2_faultAt_107 : decode cX2_faultAt 107 = .ok (.if_icmp .lt 21, 3) := by decide +kernel
theorem dX2_faultAt_110 : decode cX2_faultAt 110 = .ok (.aload_n 0, 1) := by decide +kernel
theorem dX2_faultAt_111 : decode cX2_faultAt 111 = .ok (.getfield 15, 3) := by decide +kernel
theorem dX2_faultAt_114 : decode cX2_faultAt 114 = .ok (.bipush 6, 2) := by decide +kernel
theorem dX2_faultAt_116 : decode cX2_faultAt 116 = .ok (.isub, 1) := by decide +kernel
theorem dX2_faultAt_117 : decode cX2_faultAt 117 = .ok (.bipush 7, 2) := by decide +kernel
theorem dX2_faultAt_119 : decode cX2_faultAt 119 = .ok (.irem, 1) := by decide +kernel
theorem dX2_faultAt_120 : decode cX2_faultAt 120 = .ok (.ifCond .ne 8, 3) := by decide +kernel
theorem dX2_faultAt_123 : decode cX2_faultAt 123 = .ok (.bipush (-9), 2) := by decide +kernel
theorem dX2_faultAt_125 : decode cX2_faultAt 125 = .ok (.goto 7, 3) := by decide +kernel
theorem dX2_faultAt_128 : decode cX2_faultAt 128 = .ok (.aload_n 0, 1) := by decide +kernel
theorem dX2_faultAt_129 : decode cX2_faultAt 129 = .ok (.getfield 15, 3) := by decide +kernel
theorem dX2_faultAt_132 : decode cX2_faultAt 132 = .ok (.ireturn, 1) := by decide +kernel
set_option maxRecDepth 20000 in
theorem ggX2_faultAt_X2_fits : GoodIn wsX2_faultAt wsX2_fits := goodIn_r _ [6] rfl (by decide +kernel)
set_option maxRecDepth 20000 in
theorem gX2_faultAt_X2_fits : GoodIn wsX2_faultAt (va_wsS RX2 19 yX2_fits wsX2_fits) := goodIn_app (goodIn_of _ (by decide +kernel)) ggX2_faultAt_X2_fits
theorem inX2_faultAt_X2 : ∀ w ∈ u_ws RX2 TX2 2, w ∈ wsX2_faultAt := fun w h => List.mem_cons_of_mem _ (List.mem_append_right _ h)
set_option maxRecDepth 100000 in
set_option maxHeartbeats 4000000 in
theorem m_X2_faultAt {l : Launch} {D : va_G} {E : Nat → ClassId} {T : Nat → Nat} (sc : Nat) (tx : Nat) (len : Nat) (tt : Nat → Nat) (hl9 : len ≤ 120) (ht9 : ∀ j, tt j < 256) : g_M l D E T yX2_faultAt wsX2_faultAt 1 21 [.ref sc] [(sc, .inr (2, [.ref tx, .int (nI len)])), (tx, .inl (E 2, 120, .inl (txF tt)))] [(sc, .inr (2, [.ref tx, .int (nI len)])), (tx, .inl (E 2, 120, .inl (txF tt)))] (some (.int (ftF tt len))) := by
  refine g_M.of (cc := cX2_faultAt) (nL := 5) (ret := (some .int)) (own := RX2) (lv := [(0, .ref sc)]) (by decide) rfl rfl (Nat.le_of_ble_eq_true rfl) rfl ?_
  intro p e R s m args below meth c A Q H locs ls hR hQ hc hr hw hl
  have hx := hc.1
  have hb := hc.2.1
  have hts := hc.2.2.2.1
  have hown := hc.2.2.2.2.1
  refine lv_iconst (v := 0) hx hb dX2_faultAt_0 (by decide) ?_
  refine lv_istore_n (lv' := [(1, .int 0), (0, .ref sc)]) hx hb dX2_faultAt_1 rfl hl (by decide) rfl (fun ls hl => ?_)
  refine lv_iconst (v := 0) hx hb dX2_faultAt_2 (by decide) ?_
  refine lv_istore_n (lv' := [(2, .int 0), (1, .int 0), (0, .ref sc)]) hx hb dX2_faultAt_3 rfl hl (by decide) rfl (fun ls hl => ?_)
  refine lv_iconst (v := 0) hx hb dX2_faultAt_4 (by decide) ?_
  refine lv_istore_n (lv' := [(3, .int 0), (2, .int 0), (1, .int 0), (0, .ref sc)]) hx hb dX2_faultAt_5 rfl hl (by decide) rfl (fun ls hl => ?_)
  have J6 : ∀ (k9 : Nat) (i : Nat), i + k9 = len → (∀ j, j < i → okB tt j = true) → ∀ (H : Heap) (locs : List Loc) (ls : Array Slot), g_W D A s [(sc, .inr (2, [.ref tx, .int (nI len)])), (tx, .inl (E 2, 120, .inl (txF tt)))] H locs → lv_has ls 5 [(0, .ref sc), (1, .int (nI (cwN tt i))), (2, .int (nI (cfN tt i))), (3, .int (nI i))] → W p l e R s m args below meth c H locs 0 0 Q (F0 m 6 ls []) := by
    intro k9
    induction k9 with
    | zero =>
      intro i h9  hall H locs ls hw hl
      have h9 : len = i := Eq.symm h9
      subst h9
      refine lv_iload_n hx hb dX2_faultAt_6 rfl (lv_at hl 3 rfl) ?_
      refine lv_aload_n hx hb dX2_faultAt_7 rfl (lv_at hl 0 rfl) ?_
      refine g_get (TT := TX2) hc hw inX2_faultAt_X2 0 1 1 rfl rfl (by decide) rfl rfl dX2_faultAt_8 ?_
      refine lv_icmp_ge (tgt := 101) hx hb dX2_faultAt_11 (by decide) (fun c_11 => ?_) (fun c_11 => absurd (by first | exact Int32.le_refl _ | decide) c_11)
      refine lv_aload_n hx hb dX2_faultAt_101 rfl (lv_at hl 0 rfl) ?_
      refine g_get (TT := TX2) hc hw inX2_faultAt_X2 0 1 1 rfl rfl (by decide) rfl rfl dX2_faultAt_102 ?_
      refine lv_bipush (v := 6) hx hb dX2_faultAt_105 (by decide) ?_
      refine lv_icmp_lt (tgt := 128) hx hb dX2_faultAt_107 (by decide) (fun c_107 => ?_) (fun c_107 => ?_)
      · skip
        have n_107 : len < 6 := nf_ltT rfl rfl (by omega) (by omega) c_107
        refine lv_aload_n hx hb dX2_faultAt_128 rfl (lv_at hl 0 rfl) ?_
        refine g_get (TT := TX2) hc hw inX2_faultAt_X2 0 1 1 rfl rfl (by decide) rfl rfl dX2_faultAt_129 ?_
        exact g_iret hQ hc hw hr (by exact congrArg (fun z => some (Value.int z)) (ft_len hall (by unfold stP; omega))) rfl dX2_faultAt_132
      · skip
        have n_107 : 6 ≤ len := nf_ltF rfl rfl (by omega) (by omega) c_107
        refine lv_aload_n hx hb dX2_faultAt_110 rfl (lv_at hl 0 rfl) ?_
        refine g_get (TT := TX2) hc hw inX2_faultAt_X2 0 1 1 rfl rfl (by decide) rfl rfl dX2_faultAt_111 ?_
        refine lv_bipush (v := 6) hx hb dX2_faultAt_114 (by decide) ?_
        refine lv_isub hx hb dX2_faultAt_116 ?_
        refine lv_bipush (v := 7) hx hb dX2_faultAt_117 (by decide) ?_
        refine lv_irem hx hb dX2_faultAt_119 (by decide) ?_
        refine lv_if_ne (tgt := 128) hx hb dX2_faultAt_120 (by decide) (fun c_120 => ?_) (fun c_120 => ?_)
        · skip
          have n_120 : ¬ ((len - 6) % 7) = 0 := nf_neT (n_rem (n_sub rfl rfl (by omega)) rfl (by omega) (by omega) (by omega)) rfl (by omega) (by omega) c_120
          refine lv_aload_n hx hb dX2_faultAt_128 rfl (lv_at hl 0 rfl) ?_
          refine g_get (TT := TX2) hc hw inX2_faultAt_X2 0 1 1 rfl rfl (by decide) rfl rfl dX2_faultAt_129 ?_
          exact g_iret hQ hc hw hr (by exact congrArg (fun z => some (Value.int z)) (ft_len hall (by unfold stP; omega))) rfl dX2_faultAt_132
        · skip
          have n_120 : ((len - 6) % 7) = 0 := nf_neF (n_rem (n_sub rfl rfl (by omega)) rfl (by omega) (by omega) (by omega)) rfl (by omega) (by omega) c_120
          refine lv_bipush (v := (-9)) hx hb dX2_faultAt_123 (by decide) ?_
          refine lv_goto (tgt := 132) hx hb dX2_faultAt_125 (by decide) ?_
          exact g_iret hQ hc hw hr (by exact congrArg (fun z => some (Value.int z)) (ft_9 hall (by unfold stP; omega))) rfl dX2_faultAt_132
    | succ k9 ih =>
      intro i h9  hall H locs ls hw hl
      have h9b : i < len := by omega
      refine lv_iload_n hx hb dX2_faultAt_6 rfl (lv_at hl 3 rfl) ?_
      refine lv_aload_n hx hb dX2_faultAt_7 rfl (lv_at hl 0 rfl) ?_
      refine g_get (TT := TX2) hc hw inX2_faultAt_X2 0 1 1 rfl rfl (by decide) rfl rfl dX2_faultAt_8 ?_
      refine lv_icmp_ge (tgt := 101) hx hb dX2_faultAt_11 (by decide) (fun c_11 => absurd c_11 (nI_ge h9b (by omega))) (fun c_11 => ?_)
      have hcw := cw_le tt i
      have hcf := cf_le tt i
      have hti := ht9 i
      refine lv_iload_n hx hb dX2_faultAt_14 rfl (lv_at hl 3 rfl) ?_
      refine lv_bipush (v := 120) hx hb dX2_faultAt_15 (by decide) ?_
      refine lv_icmp_ge (tgt := 101) hx hb dX2_faultAt_17 (by decide) (fun c_17 => absurd c_17 (nI_ge (show i < 120 by omega) (by decide))) (fun c_17 => ?_)
      refine lv_aload_n hx hb dX2_faultAt_20 rfl (lv_at hl 0 rfl) ?_
      refine g_get (TT := TX2) hc hw inX2_faultAt_X2 0 0 2 rfl rfl (by decide) rfl rfl dX2_faultAt_21 ?_
      refine lv_iload_n hx hb dX2_faultAt_24 rfl (lv_at hl 3 rfl) ?_
      refine g_cld hc hw 1 i rfl rfl (by omega) (by decide) dX2_faultAt_25 ?_
      refine lv_istore (lv' := [(4, .int (nI (tt i))), (0, .ref sc), (1, .int (nI (cwN tt i))), (2, .int (nI (cfN tt i))), (3, .int (nI i))]) hx hb dX2_faultAt_26 hl (by decide) rfl (fun ls hl => ?_)
      refine lv_iload_n hx hb dX2_faultAt_28 rfl (lv_at hl 4 rfl) ?_
      refine lv_bipush (v := 6) hx hb dX2_faultAt_29 (by decide) ?_
      refine lv_icmp_lt (tgt := 84) hx hb dX2_faultAt_31 (by decide) (fun c_31 => ?_) (fun c_31 => ?_)
      · skip
        have n_31 : i < 6 := nf_ltT rfl rfl (by omega) (by omega) c_31
        refine lv_iload_n hx hb dX2_faultAt_84 rfl (lv_at hl 4 rfl) ?_
        refine lv_iload hx hb dX2_faultAt_85 (lv_at hl 0 rfl) ?_
        refine g_cS (As := [.int (nI i), .int (nI (tt i))]) (n := 2) (rest := []) (wc := []) (w1 := []) (bytes := cX2_fits) (maxL := 2) (ret := (some .boolean)) hc hw hl.1 (m_X2_fits (l := l) (D := D) (E := E) (T := T) i (tt i) (by omega) (ht9 i)) gX2_faultAt_X2_fits rfl (by decide +kernel) (by rw [hR]; exact ⟨Nat.le_of_ble_eq_true rfl, Nat.le_of_ble_eq_true rfl⟩) [] (by decide) rfl [] rfl rfl rfl rfl (Nat.le_of_ble_eq_true rfl) dX2_faultAt_87 ⟨Nat.zero_le _, Nat.zero_le _⟩ (fun H locs hw => ?_)
        have hw : g_W D A s [(sc, .inr (2, [.ref tx, .int (nI len)])), (tx, .inl (E 2, 120, .inl (txF tt)))] H locs := hw
        refine lv_if_ne (tgt := 95) hx hb dX2_faultAt_90 (by decide) (fun c_90 => ?_) (fun c_90 => ?_)
        · skip
          have k_90 := b2i_ne c_90
          refine lv_iinc (v := nI (i + 1)) (lv' := [(3, .int (nI (i + 1))), (4, .int (nI (tt i))), (0, .ref sc), (1, .int (nI (cwN tt i))), (2, .int (nI (cfN tt i)))]) hx hb dX2_faultAt_95 hl (k := 4) rfl (n_inc1 rfl) (by decide) rfl (fun ls hl => ?_)
          refine lv_goto (tgt := 6) hx hb dX2_faultAt_98 (by decide) ?_
          have hl := lv_conv hl 3 rfl (v' := (.int (nI (cwN tt (i + 1))))) (by exact congrArg (fun z => Value.int (nI z)) (cw_0 (by unfold stP; omega)))
          have hl : lv_has ls 5 [(3, .int (nI (i + 1))), (4, .int (nI (tt i))), (0, .ref sc), (1, .int (nI (cwN tt (i + 1)))), (2, .int (nI (cfN tt i)))] := hl
          have hl := lv_conv hl 4 rfl (v' := (.int (nI (cfN tt (i + 1))))) (by exact congrArg (fun z => Value.int (nI z)) (cf_0 (by unfold stP; omega)))
          have hl : lv_has ls 5 [(3, .int (nI (i + 1))), (4, .int (nI (tt i))), (0, .ref sc), (1, .int (nI (cwN tt (i + 1)))), (2, .int (nI (cfN tt (i + 1))))] := hl
          exact ih (i + 1) (by omega)  (all_s hall (Or.inr ⟨by unfold stP; omega, of_decide_eq_true k_90⟩)) _ _ _ hw (lv_sub hl [2, 3, 4, 0] rfl)
        · skip
          have k_90 := b2i_eq c_90
          refine lv_iload_n hx hb dX2_faultAt_93 rfl (lv_at hl 4 rfl) ?_
          exact g_iret hQ hc hw hr (by exact congrArg (fun z => some (Value.int z)) (ft_bad hall (fun q => q.elim (fun z => by have := z.1; unfold stP at this; omega) (fun z => (of_decide_eq_false k_90) z.2)) h9b)) rfl dX2_faultAt_94
      · skip
        have n_31 : 6 ≤ i := nf_ltF rfl rfl (by omega) (by omega) c_31
        refine lv_iload_n hx hb dX2_faultAt_34 rfl (lv_at hl 4 rfl) ?_
        refine lv_bipush (v := 6) hx hb dX2_faultAt_35 (by decide) ?_
        refine lv_isub hx hb dX2_faultAt_37 ?_
        refine lv_bipush (v := 7) hx hb dX2_faultAt_38 (by decide) ?_
        refine lv_irem hx hb dX2_faultAt_40 (by decide) ?_
        refine lv_if_ne (tgt := 84) hx hb dX2_faultAt_41 (by decide) (fun c_41 => ?_) (fun c_41 => ?_)
        · skip
          have n_41 : ¬ ((i - 6) % 7) = 0 := nf_neT (n_rem (n_sub rfl rfl (by omega)) rfl (by omega) (by omega) (by omega)) rfl (by omega) (by omega) c_41
          refine lv_iload_n hx hb dX2_faultAt_84 rfl (lv_at hl 4 rfl) ?_
          refine lv_iload hx hb dX2_faultAt_85 (lv_at hl 0 rfl) ?_
          refine g_cS (As := [.int (nI i), .int (nI (tt i))]) (n := 2) (rest := []) (wc := []) (w1 := []) (bytes := cX2_fits) (maxL := 2) (ret := (some .boolean)) hc hw hl.1 (m_X2_fits (l := l) (D := D) (E := E) (T := T) i (tt i) (by omega) (ht9 i)) gX2_faultAt_X2_fits rfl (by decide +kernel) (by rw [hR]; exact ⟨Nat.le_of_ble_eq_true rfl, Nat.le_of_ble_eq_true rfl⟩) [] (by decide) rfl [] rfl rfl rfl rfl (Nat.le_of_ble_eq_true rfl) dX2_faultAt_87 ⟨Nat.zero_le _, Nat.zero_le _⟩ (fun H locs hw => ?_)
          have hw : g_W D A s [(sc, .inr (2, [.ref tx, .int (nI len)])), (tx, .inl (E 2, 120, .inl (txF tt)))] H locs := hw
          refine lv_if_ne (tgt := 95) hx hb dX2_faultAt_90 (by decide) (fun c_90 => ?_) (fun c_90 => ?_)
          · skip
            have k_90 := b2i_ne c_90
            refine lv_iinc (v := nI (i + 1)) (lv' := [(3, .int (nI (i + 1))), (4, .int (nI (tt i))), (0, .ref sc), (1, .int (nI (cwN tt i))), (2, .int (nI (cfN tt i)))]) hx hb dX2_faultAt_95 hl (k := 4) rfl (n_inc1 rfl) (by decide) rfl (fun ls hl => ?_)
            refine lv_goto (tgt := 6) hx hb dX2_faultAt_98 (by decide) ?_
            have hl := lv_conv hl 3 rfl (v' := (.int (nI (cwN tt (i + 1))))) (by exact congrArg (fun z => Value.int (nI z)) (cw_0 (by unfold stP; omega)))
            have hl : lv_has ls 5 [(3, .int (nI (i + 1))), (4, .int (nI (tt i))), (0, .ref sc), (1, .int (nI (cwN tt (i + 1)))), (2, .int (nI (cfN tt i)))] := hl
            have hl := lv_conv hl 4 rfl (v' := (.int (nI (cfN tt (i + 1))))) (by exact congrArg (fun z => Value.int (nI z)) (cf_0 (by unfold stP; omega)))
            have hl : lv_has ls 5 [(3, .int (nI (i + 1))), (4, .int (nI (tt i))), (0, .ref sc), (1, .int (nI (cwN tt (i + 1)))), (2, .int (nI (cfN tt (i + 1))))] := hl
            exact ih (i + 1) (by omega)  (all_s hall (Or.inr ⟨by unfold stP; omega, of_decide_eq_true k_90⟩)) _ _ _ hw (lv_sub hl [2, 3, 4, 0] rfl)
          · skip
            have k_90 := b2i_eq c_90
            refine lv_iload_n hx hb dX2_faultAt_93 rfl (lv_at hl 4 rfl) ?_
            exact g_iret hQ hc hw hr (by exact congrArg (fun z => some (Value.int z)) (ft_bad hall (fun q => q.elim (fun z => by have := z.1; unfold stP at this; omega) (fun z => (of_decide_eq_false k_90) z.2)) h9b)) rfl dX2_faultAt_94
        · skip
          have n_41 : ((i - 6) % 7) = 0 := nf_neF (n_rem (n_sub rfl rfl (by omega)) rfl (by omega) (by omega) (by omega)) rfl (by omega) (by omega) c_41
          refine lv_iload hx hb dX2_faultAt_44 (lv_at hl 0 rfl) ?_
          refine lv_bipush (v := 119) hx hb dX2_faultAt_46 (by decide) ?_
          refine lv_icmp_ne (tgt := 63) hx hb dX2_faultAt_48 (by decide) (fun c_48 => ?_) (fun c_48 => ?_)
          · skip
            have n_48 : ¬ (tt i) = 119 := nf_neT rfl rfl (by omega) (by omega) c_48
            refine lv_iload hx hb dX2_faultAt_63 (lv_at hl 0 rfl) ?_
            refine lv_bipush (v := 102) hx hb dX2_faultAt_65 (by decide) ?_
            refine lv_icmp_ne (tgt := 82) hx hb dX2_faultAt_67 (by decide) (fun c_67 => ?_) (fun c_67 => ?_)
            · skip
              have n_67 : ¬ (tt i) = 102 := nf_neT rfl rfl (by omega) (by omega) c_67
              refine lv_iload_n hx hb dX2_faultAt_82 rfl (lv_at hl 4 rfl) ?_
              exact g_iret hQ hc hw hr (by exact congrArg (fun z => some (Value.int z)) (ft_bad hall (by unfold okP stP fiP; omega) h9b)) rfl dX2_faultAt_83
            · skip
              have n_67 : (tt i) = 102 := nf_neF rfl rfl (by omega) (by omega) c_67
              refine lv_iload_n hx hb dX2_faultAt_70 rfl (lv_at hl 3 rfl) ?_
              refine lv_bipush (v := 6) hx hb dX2_faultAt_71 (by decide) ?_
              refine lv_icmp_ge (tgt := 82) hx hb dX2_faultAt_73 (by decide) (fun c_73 => ?_) (fun c_73 => ?_)
              · skip
                have n_73 : 6 ≤ (cfN tt i) := nf_geT rfl rfl (by omega) (by omega) c_73
                refine lv_iload_n hx hb dX2_faultAt_82 rfl (lv_at hl 4 rfl) ?_
                exact g_iret hQ hc hw hr (by exact congrArg (fun z => some (Value.int z)) (ft_bad hall (by unfold okP stP fiP; omega) h9b)) rfl dX2_faultAt_83
              · skip
                have n_73 : (cfN tt i) < 6 := nf_geF rfl rfl (by omega) (by omega) c_73
                refine lv_iinc (v := nI ((cfN tt i) + 1)) (lv' := [(2, .int (nI ((cfN tt i) + 1))), (4, .int (nI (tt i))), (0, .ref sc), (1, .int (nI (cwN tt i))), (3, .int (nI i))]) hx hb dX2_faultAt_76 hl (k := 3) rfl (n_inc1 rfl) (by decide) rfl (fun ls hl => ?_)
                refine lv_goto (tgt := 95) hx hb dX2_faultAt_79 (by decide) ?_
                refine lv_iinc (v := nI (i + 1)) (lv' := [(3, .int (nI (i + 1))), (2, .int (nI ((cfN tt i) + 1))), (4, .int (nI (tt i))), (0, .ref sc), (1, .int (nI (cwN tt i)))]) hx hb dX2_faultAt_95 hl (k := 4) rfl (n_inc1 rfl) (by decide) rfl (fun ls hl => ?_)
                refine lv_goto (tgt := 6) hx hb dX2_faultAt_98 (by decide) ?_
                have hl := lv_conv hl 4 rfl (v' := (.int (nI (cwN tt (i + 1))))) (by exact congrArg (fun z => Value.int (nI z)) (cw_0 (by unfold stP; omega)))
                have hl : lv_has ls 5 [(3, .int (nI (i + 1))), (2, .int (nI ((cfN tt i) + 1))), (4, .int (nI (tt i))), (0, .ref sc), (1, .int (nI (cwN tt (i + 1))))] := hl
                have hl := lv_conv hl 1 rfl (v' := (.int (nI (cfN tt (i + 1))))) (by exact congrArg (fun z => Value.int (nI z)) (cf_1 (by unfold stP; omega)))
                have hl : lv_has ls 5 [(3, .int (nI (i + 1))), (2, .int (nI (cfN tt (i + 1)))), (4, .int (nI (tt i))), (0, .ref sc), (1, .int (nI (cwN tt (i + 1))))] := hl
                exact ih (i + 1) (by omega)  (all_s hall (by unfold okP stP; omega)) _ _ _ hw (lv_sub hl [3, 4, 1, 0] rfl)
          · skip
            have n_48 : (tt i) = 119 := nf_neF rfl rfl (by omega) (by omega) c_48
            refine lv_iload_n hx hb dX2_faultAt_51 rfl (lv_at hl 2 rfl) ?_
            refine lv_bipush (v := 6) hx hb dX2_faultAt_52 (by decide) ?_
            refine lv_icmp_ge (tgt := 63) hx hb dX2_faultAt_54 (by decide) (fun c_54 => ?_) (fun c_54 => ?_)
            · skip
              have n_54 : 6 ≤ (cwN tt i) := nf_geT rfl rfl (by omega) (by omega) c_54
              refine lv_iload hx hb dX2_faultAt_63 (lv_at hl 0 rfl) ?_
              refine lv_bipush (v := 102) hx hb dX2_faultAt_65 (by decide) ?_
              refine lv_icmp_ne (tgt := 82) hx hb dX2_faultAt_67 (by decide) (fun c_67 => ?_) (fun c_67 => ?_)
              · skip
                have n_67 : ¬ (tt i) = 102 := nf_neT rfl rfl (by omega) (by omega) c_67
                refine lv_iload_n hx hb dX2_faultAt_82 rfl (lv_at hl 4 rfl) ?_
                exact g_iret hQ hc hw hr (by exact congrArg (fun z => some (Value.int z)) (ft_bad hall (by unfold okP stP fiP; omega) h9b)) rfl dX2_faultAt_83
              · skip
                have n_67 : (tt i) = 102 := nf_neF rfl rfl (by omega) (by omega) c_67
                refine lv_iload_n hx hb dX2_faultAt_70 rfl (lv_at hl 3 rfl) ?_
                refine lv_bipush (v := 6) hx hb dX2_faultAt_71 (by decide) ?_
                refine lv_icmp_ge (tgt := 82) hx hb dX2_faultAt_73 (by decide) (fun c_73 => ?_) (fun c_73 => ?_)
                · skip
                  have n_73 : 6 ≤ (cfN tt i) := nf_geT rfl rfl (by omega) (by omega) c_73
                  refine lv_iload_n hx hb dX2_faultAt_82 rfl (lv_at hl 4 rfl) ?_
                  exact g_iret hQ hc hw hr (by exact congrArg (fun z => some (Value.int z)) (ft_bad hall (by unfold okP stP fiP; omega) h9b)) rfl dX2_faultAt_83
                · skip
                  have n_73 : (cfN tt i) < 6 := nf_geF rfl rfl (by omega) (by omega) c_73
                  refine lv_iinc (v := nI ((cfN tt i) + 1)) (lv' := [(2, .int (nI ((cfN tt i) + 1))), (4, .int (nI (tt i))), (0, .ref sc), (1, .int (nI (cwN tt i))), (3, .int (nI i))]) hx hb dX2_faultAt_76 hl (k := 3) rfl (n_inc1 rfl) (by decide) rfl (fun ls hl => ?_)
                  refine lv_goto (tgt := 95) hx hb dX2_faultAt_79 (by decide) ?_
                  refine lv_iinc (v := nI (i + 1)) (lv' := [(3, .int (nI (i + 1))), (2, .int (nI ((cfN tt i) + 1))), (4, .int (nI (tt i))), (0, .ref sc), (1, .int (nI (cwN tt i)))]) hx hb dX2_faultAt_95 hl (k := 4) rfl (n_inc1 rfl) (by decide) rfl (fun ls hl => ?_)
                  refine lv_goto (tgt := 6) hx hb dX2_faultAt_98 (by decide) ?_
                  have hl := lv_conv hl 4 rfl (v' := (.int (nI (cwN tt (i + 1))))) (by exact congrArg (fun z => Value.int (nI z)) (cw_0 (by unfold stP; omega)))
                  have hl : lv_has ls 5 [(3, .int (nI (i + 1))), (2, .int (nI ((cfN tt i) + 1))), (4, .int (nI (tt i))), (0, .ref sc), (1, .int (nI (cwN tt (i + 1))))] := hl
                  have hl := lv_conv hl 1 rfl (v' := (.int (nI (cfN tt (i + 1))))) (by exact congrArg (fun z => Value.int (nI z)) (cf_1 (by unfold stP; omega)))
                  have hl : lv_has ls 5 [(3, .int (nI (i + 1))), (2, .int (nI (cfN tt (i + 1)))), (4, .int (nI (tt i))), (0, .ref sc), (1, .int (nI (cwN tt (i + 1))))] := hl
                  exact ih (i + 1) (by omega)  (all_s hall (by unfold okP stP; omega)) _ _ _ hw (lv_sub hl [3, 4, 1, 0] rfl)
            · skip
              have n_54 : (cwN tt i) < 6 := nf_geF rfl rfl (by omega) (by omega) c_54
              refine lv_iinc (v := nI ((cwN tt i) + 1)) (lv' := [(1, .int (nI ((cwN tt i) + 1))), (4, .int (nI (tt i))), (0, .ref sc), (2, .int (nI (cfN tt i))), (3, .int (nI i))]) hx hb dX2_faultAt_57 hl (k := 2) rfl (n_inc1 rfl) (by decide) rfl (fun ls hl => ?_)
              refine lv_goto (tgt := 95) hx hb dX2_faultAt_60 (by decide) ?_
              refine lv_iinc (v := nI (i + 1)) (lv' := [(3, .int (nI (i + 1))), (1, .int (nI ((cwN tt i) + 1))), (4, .int (nI (tt i))), (0, .ref sc), (2, .int (nI (cfN tt i)))]) hx hb dX2_faultAt_95 hl (k := 4) rfl (n_inc1 rfl) (by decide) rfl (fun ls hl => ?_)
              refine lv_goto (tgt := 6) hx hb dX2_faultAt_98 (by decide) ?_
              have hl := lv_conv hl 1 rfl (v' := (.int (nI (cwN tt (i + 1))))) (by exact congrArg (fun z => Value.int (nI z)) (cw_1 (by unfold stP; omega)))
              have hl : lv_has ls 5 [(3, .int (nI (i + 1))), (1, .int (nI (cwN tt (i + 1)))), (4, .int (nI (tt i))), (0, .ref sc), (2, .int (nI (cfN tt i)))] := hl
              have hl := lv_conv hl 4 rfl (v' := (.int (nI (cfN tt (i + 1))))) (by exact congrArg (fun z => Value.int (nI z)) (cf_0 (by unfold stP; omega)))
              have hl : lv_has ls 5 [(3, .int (nI (i + 1))), (1, .int (nI (cwN tt (i + 1)))), (4, .int (nI (tt i))), (0, .ref sc), (2, .int (nI (cfN tt (i + 1))))] := hl
              exact ih (i + 1) (by omega)  (all_s hall (by unfold okP stP; omega)) _ _ _ hw (lv_sub hl [3, 1, 4, 0] rfl)
  exact J6 len 0 (by omega)  (fun j hj => absurd hj (Nat.not_lt_zero j)) _ _ _ hw (lv_sub hl [3, 2, 1, 0] rfl)

theorem dX2_readTriple_0 : decode cX2_readTriple 0 = .ok (.iconst 0, 1) := by decide +kernel
theorem dX2_readTriple_1 : decode cX2_readTriple 1 = .ok (.istore 4, 2) := by decide +kernel
theorem dX2_readTriple_3 : decode cX2_readTriple 3 = .ok (.iload 4, 2) := by decide +kernel
theorem dX2_readTriple_5 : decode cX2_readTriple 5 = .ok (.iconst 3, 1) := by decide +kernel
theorem dX2_readTriple_6 : decode cX2_readTriple 6 = .ok (.if_icmp .ge 55, 3) := by decide +kernel
theorem dX2_readTriple_9 : decode cX2_readTriple 9 = .ok (.aload_n 0, 1) := by decide +kernel
theorem dX2_readTriple_10 : decode cX2_readTriple 10 = .ok (.iload_n 1, 1) := by decide +kernel
theorem dX2_readTriple_11 : decode cX2_readTriple 11 = .ok (.iconst 2, 1) := by decide +kernel
theorem dX2_readTriple_12 : decode cX2_readTriple 12 = .ok (.iload 4, 2) := by decide +kernel
theorem dX2_readTriple_14 : decode cX2_readTriple 14 = .ok (.imul, 1) := by decide +kernel
theorem dX2_readTriple_15 : decode cX2_readTriple 15 = .ok (.iadd, 1) := by decide +kernel
theorem dX2_readTriple_16 : decode cX2_readTriple 16 = .ok (.iconst 1, 1) := by decide +kernel
theorem dX2_readTriple_17 : decode cX2_readTriple 17 = .ok (.iadd, 1) := by decide +kernel
theorem dX2_readTriple_18 : decode cX2_readTriple 18 = .ok (.invokevirtual 29, 3) := by decide +kernel
theorem dX2_readTriple_21 : decode cX2_readTriple 21 = .ok (.istore 5, 2) := by decide +kernel
theorem dX2_readTriple_23 : decode cX2_readTriple 23 = .ok (.aload_n 2, 1) := by decide +kernel
theorem dX2_readTriple_24 : decode cX2_readTriple 24 = .ok (.iload_n 3, 1) := by decide +kernel
theorem dX2_readTriple_25 : decode cX2_readTriple 25 = .ok (.iconst 3, 1) := by decide +kernel
theorem dX2_readTriple_26 : decode cX2_readTriple 26 = .ok (.imul, 1) := by decide +kernel
theorem dX2_readTriple_27 : decode cX2_readTriple 27 = .ok (.iload 4, 2) := by decide +kernel
theorem dX2_readTriple_29 : decode cX2_readTriple 29 = .ok (.iadd, 1) := by decide +kernel
theorem dX2_readTriple_30 : decode cX2_readTriple 30 = .ok (.aload_n 0, 1) := by decide +kernel
theorem dX2_readTriple_31 : decode cX2_readTriple 31 = .ok (.getfield 9, 3) := by decide +kernel
theorem dX2_readTriple_34 : decode cX2_readTriple 34 = .ok (.iload_n 1, 1) := by decide +kernel
theorem dX2_readTriple_35 : decode cX2_readTriple 35 = .ok (.iconst 2, 1) := by decide +kernel
theorem dX2_readTriple_36 : decode cX2_readTriple 36 = .ok (.iload 4, 2) := by decide +kernel
theorem dX2_readTriple_38 : decode cX2_readTriple 38 = .ok (.imul, 1) := by decide +kernel
theorem dX2_readTriple_39 : decode cX2_readTriple 39 = .ok (.iadd, 1) := by decide +kernel
theorem dX2_readTriple_40 : decode cX2_readTriple 40 = .ok (.caload, 1) := by decide +kernel
theorem dX2_readTriple_41 : decode cX2_readTriple 41 = .ok (.bipush 45, 2) := by decide +kernel
theorem dX2_readTriple_43 : decode cX2_readTriple 43 = .ok (.if_icmp .ne 9, 3) := by decide +kernel
theorem dX2_readTriple_46 : decode cX2_readTriple 46 = .ok (.iload 5, 2) := by decide +kernel
theorem dX2_readTriple_48 : decode cX2_readTriple 48 = .ok (.ineg, 1) := by decide +kernel
theorem dX2_readTriple_49 : decode cX2_readTriple 49 = .ok (.goto 5, 3) := by decide +kernel
theorem dX2_readTriple_52 : decode cX2_readTriple 52 = .ok (.iload 5, 2) := by decide +kernel
theorem dX2_readTriple_54 : decode cX2_readTriple 54 = .ok (.iastore, 1) := by decide +kernel
theorem dX2_readTriple_55 : decode cX2_readTriple 55 = .ok (.iinc 4 1, 3) := by decide +kernel
theorem dX2_readTriple_58 : decode cX2_readTriple 58 = .ok (.goto (-55), 3) := by decide +kernel
theorem dX2_readTriple_61 : decode cX2_readTriple 61 = .ok (.return_, 1) := by decide +kernel
set_option maxRecDepth 20000 in
theorem ggX2_readTriple_X2_digit : GoodIn wsX2_readTriple wsX2_digit := goodIn_r _ [6, 1, 7, 8] rfl (by decide +kernel)
set_option maxRecDepth 20000 in
theorem gX2_readTriple_X2_digit : GoodIn wsX2_readTriple (wsV RX2 29 RX2 yX2_digit wsX2_digit) := goodIn_app (goodIn_of _ (by decide +kernel)) ggX2_readTriple_X2_digit
theorem inX2_readTriple_X2 : ∀ w ∈ u_ws RX2 TX2 2, w ∈ wsX2_readTriple := fun w h => List.mem_cons_of_mem _ (List.mem_append_right _ h)
set_option maxRecDepth 100000 in
set_option maxHeartbeats 4000000 in
theorem m_X2_readTriple {l : Launch} {D : va_G} {E : Nat → ClassId} {T : Nat → Nat} (sc : Nat) (tx : Nat) (a0 : Nat) (ra : Nat) (row : Nat) (x1 : Value) (tt : Nat → Nat) (g : Nat → Int32) (ha : a0 + 6 ≤ 120) (hr9 : row < 6) (ht9 : ∀ j, tt j < 256) : g_M l D E T yX2_readTriple wsX2_readTriple 1 21 [.ref sc, .int (nI a0), .ref ra, .int (nI row)] [(sc, .inr (2, [.ref tx, x1])), (tx, .inl (E 2, 120, .inl (txF tt))), (ra, .inl (E 0, 18, .inl g))] [(sc, .inr (2, [.ref tx, x1])), (tx, .inl (E 2, 120, .inl (txF tt))), (ra, .inl (E 0, 18, .inl (rtP g tt a0 row 3)))] none := by
  refine g_M.of (cc := cX2_readTriple) (nL := 6) (ret := none) (own := RX2) (lv := [(0, .ref sc), (1, .int (nI a0)), (2, .ref ra), (3, .int (nI row))]) (by decide) rfl rfl (Nat.le_of_ble_eq_true rfl) rfl ?_
  intro p e R s m args below meth c A Q H locs ls hR hQ hc hr hw hl
  have hx := hc.1
  have hb := hc.2.1
  have hts := hc.2.2.2.1
  have hown := hc.2.2.2.2.1
  refine lv_iconst (v := 0) hx hb dX2_readTriple_0 (by decide) ?_
  refine lv_istore (lv' := [(4, .int 0), (0, .ref sc), (1, .int (nI a0)), (2, .ref ra), (3, .int (nI row))]) hx hb dX2_readTriple_1 hl (by decide) rfl (fun ls hl => ?_)
  have J3 : ∀ (k9 : Nat) (i : Nat), i + k9 = 3 → ∀ (H : Heap) (locs : List Loc) (ls : Array Slot), g_W D A s [(sc, .inr (2, [.ref tx, x1])), (tx, .inl (E 2, 120, .inl (txF tt))), (ra, .inl (E 0, 18, .inl (rtP g tt a0 row i)))] H locs → lv_has ls 6 [(0, .ref sc), (1, .int (nI a0)), (2, .ref ra), (3, .int (nI row)), (4, .int (nI i))] → W p l e R s m args below meth c H locs 0 0 Q (F0 m 3 ls []) := by
    intro k9
    induction k9 with
    | zero =>
      intro i h9   H locs ls hw hl
      have h9 : i = 3 := h9
      subst h9
      refine lv_iload hx hb dX2_readTriple_3 (lv_at hl 4 rfl) ?_
      refine lv_iconst (v := 3) hx hb dX2_readTriple_5 (by decide) ?_
      refine lv_icmp_ge (tgt := 61) hx hb dX2_readTriple_6 (by decide) (fun c_6 => ?_) (fun c_6 => absurd (by first | exact Int32.le_refl _ | decide) c_6)
      exact g_vret hQ hc hw hr rfl rfl dX2_readTriple_61
    | succ k9 ih =>
      intro i h9   H locs ls hw hl
      have h9b : i < 3 := by omega
      refine lv_iload hx hb dX2_readTriple_3 (lv_at hl 4 rfl) ?_
      refine lv_iconst (v := 3) hx hb dX2_readTriple_5 (by decide) ?_
      refine lv_icmp_ge (tgt := 61) hx hb dX2_readTriple_6 (by decide) (fun c_6 => absurd c_6 (nI_ge h9b (by decide))) (fun c_6 => ?_)
      have hti := ht9 (a0 + 2 * i)
      refine lv_aload_n hx hb dX2_readTriple_9 rfl (lv_at hl 0 rfl) ?_
      refine lv_iload_n hx hb dX2_readTriple_10 rfl (lv_at hl 1 rfl) ?_
      refine lv_iconst (v := 2) hx hb dX2_readTriple_11 (by decide) ?_
      refine lv_iload hx hb dX2_readTriple_12 (lv_at hl 4 rfl) ?_
      refine lv_imul hx hb dX2_readTriple_14 ?_
      refine lv_iadd hx hb dX2_readTriple_15 ?_
      refine lv_iconst (v := 1) hx hb dX2_readTriple_16 (by decide) ?_
      refine lv_iadd hx hb dX2_readTriple_17 ?_
      refine W.eq (congrArg (fun z => F0 m 18 ls (.int z :: [.ref sc])) (show (((nI a0) + (2 * (nI i))) + 1 : Int32) = nI ((a0 + (2 * i)) + 1) from (n_add (n_add rfl (n_mul rfl rfl)) rfl))) ?_
      refine g_cV (As := [.int (nI ((a0 + (2 * i)) + 1))]) (n := 1) (rest := []) (wc := [(sc, .inr (2, [.ref tx, x1])), (tx, .inl (E 2, 120, .inl (txF tt)))]) (w1 := [(sc, .inr (2, [.ref tx, x1])), (tx, .inl (E 2, 120, .inl (txF tt)))]) (bytes := cX2_digit) (maxL := 2) (ret := (some .int)) hc hw hl.1 (m_X2_digit (l := l) (D := D) (E := E) (T := T) sc tx ((a0 + (2 * i)) + 1) x1 tt (by omega)) gX2_readTriple_X2_digit rfl (by decide +kernel) (by rw [hR]; exact ⟨Nat.le_of_ble_eq_true rfl, Nat.le_of_ble_eq_true rfl⟩) [0, 1] 0 2 rfl rfl (by decide) rfl [sc, tx] rfl rfl rfl rfl (Nat.le_of_ble_eq_true rfl) dX2_readTriple_18 ⟨Nat.zero_le _, Nat.zero_le _⟩ (fun H locs hw => ?_)
      have hw : g_W D A s [(sc, .inr (2, [.ref tx, x1])), (tx, .inl (E 2, 120, .inl (txF tt))), (ra, .inl (E 0, 18, .inl (rtP g tt a0 row i)))] H locs := hw
      refine lv_istore (lv' := [(5, .int (dgF tt ((a0 + (2 * i)) + 1))), (0, .ref sc), (1, .int (nI a0)), (2, .ref ra), (3, .int (nI row)), (4, .int (nI i))]) hx hb dX2_readTriple_21 hl (by decide) rfl (fun ls hl => ?_)
      refine lv_aload_n hx hb dX2_readTriple_23 rfl (lv_at hl 3 rfl) ?_
      refine lv_iload_n hx hb dX2_readTriple_24 rfl (lv_at hl 4 rfl) ?_
      refine lv_iconst (v := 3) hx hb dX2_readTriple_25 (by decide) ?_
      refine lv_imul hx hb dX2_readTriple_26 ?_
      refine lv_iload hx hb dX2_readTriple_27 (lv_at hl 5 rfl) ?_
      refine lv_iadd hx hb dX2_readTriple_29 ?_
      refine lv_aload_n hx hb dX2_readTriple_30 rfl (lv_at hl 1 rfl) ?_
      refine g_get (TT := TX2) hc hw inX2_readTriple_X2 0 0 1 rfl rfl (by decide) rfl rfl dX2_readTriple_31 ?_
      refine lv_iload_n hx hb dX2_readTriple_34 rfl (lv_at hl 2 rfl) ?_
      refine lv_iconst (v := 2) hx hb dX2_readTriple_35 (by decide) ?_
      refine lv_iload hx hb dX2_readTriple_36 (lv_at hl 5 rfl) ?_
      refine lv_imul hx hb dX2_readTriple_38 ?_
      refine lv_iadd hx hb dX2_readTriple_39 ?_
      refine g_cld hc hw 1 (a0 + (2 * i)) rfl (n_add rfl (n_mul rfl rfl)) (by omega) (by decide) dX2_readTriple_40 ?_
      refine lv_bipush (v := 45) hx hb dX2_readTriple_41 (by decide) ?_
      refine lv_icmp_ne (tgt := 52) hx hb dX2_readTriple_43 (by decide) (fun c_43 => ?_) (fun c_43 => ?_)
      · skip
        have n_43 : ¬ (tt (a0 + (2 * i))) = 45 := nf_neT rfl rfl (by omega) (by omega) c_43
        refine lv_iload hx hb dX2_readTriple_52 (lv_at hl 0 rfl) ?_
        refine g_ist hc hw 2 ((row * 3) + i) rfl (n_add (n_mul rfl rfl) rfl) (by omega) (by decide) dX2_readTriple_54 (fun H locs hw => ?_)
        have hw : g_W D A s [(sc, .inr (2, [.ref tx, x1])), (tx, .inl (E 2, 120, .inl (txF tt))), (ra, .inl (E 0, 18, .inl (upd (rtP g tt a0 row i) ((row * 3) + i) (dgF tt ((a0 + (2 * i)) + 1)))))] H locs := hw
        refine lv_iinc (v := nI (i + 1)) (lv' := [(4, .int (nI (i + 1))), (5, .int (dgF tt ((a0 + (2 * i)) + 1))), (0, .ref sc), (1, .int (nI a0)), (2, .ref ra), (3, .int (nI row))]) hx hb dX2_readTriple_55 hl (k := 5) rfl (n_inc1 rfl) (by decide) rfl (fun ls hl => ?_)
        refine lv_goto (tgt := 3) hx hb dX2_readTriple_58 (by decide) ?_
        have hw : g_W D A s [(sc, .inr (2, [.ref tx, x1])), (tx, .inl (E 2, 120, .inl (txF tt))), (ra, .inl (E 0, 18, .inl (rtP g tt a0 row (i + 1))))] H locs := by
          have e2 : (upd (rtP g tt a0 row i) ((row * 3) + i) (dgF tt ((a0 + (2 * i)) + 1))) = (rtP g tt a0 row (i + 1)) := by exact rt_s g tt a0 row i (if_neg n_43).symm
          rw [e2] at hw
          exact hw
        exact ih (i + 1) (by omega)   _ _ _ hw (lv_sub hl [2, 3, 4, 5, 0] rfl)
      · skip
        have n_43 : (tt (a0 + (2 * i))) = 45 := nf_neF rfl rfl (by omega) (by omega) c_43
        refine lv_iload hx hb dX2_readTriple_46 (lv_at hl 0 rfl) ?_
        refine lv_ineg hx hb dX2_readTriple_48 ?_
        refine lv_goto (tgt := 54) hx hb dX2_readTriple_49 (by decide) ?_
        refine g_ist hc hw 2 ((row * 3) + i) rfl (n_add (n_mul rfl rfl) rfl) (by omega) (by decide) dX2_readTriple_54 (fun H locs hw => ?_)
        have hw : g_W D A s [(sc, .inr (2, [.ref tx, x1])), (tx, .inl (E 2, 120, .inl (txF tt))), (ra, .inl (E 0, 18, .inl (upd (rtP g tt a0 row i) ((row * 3) + i) (-(dgF tt ((a0 + (2 * i)) + 1))))))] H locs := hw
        refine lv_iinc (v := nI (i + 1)) (lv' := [(4, .int (nI (i + 1))), (5, .int (dgF tt ((a0 + (2 * i)) + 1))), (0, .ref sc), (1, .int (nI a0)), (2, .ref ra), (3, .int (nI row))]) hx hb dX2_readTriple_55 hl (k := 5) rfl (n_inc1 rfl) (by decide) rfl (fun ls hl => ?_)
        refine lv_goto (tgt := 3) hx hb dX2_readTriple_58 (by decide) ?_
        have hw : g_W D A s [(sc, .inr (2, [.ref tx, x1])), (tx, .inl (E 2, 120, .inl (txF tt))), (ra, .inl (E 0, 18, .inl (rtP g tt a0 row (i + 1))))] H locs := by
          have e2 : (upd (rtP g tt a0 row i) ((row * 3) + i) (-(dgF tt ((a0 + (2 * i)) + 1)))) = (rtP g tt a0 row (i + 1)) := by exact rt_s g tt a0 row i (if_pos n_43).symm
          rw [e2] at hw
          exact hw
        exact ih (i + 1) (by omega)   _ _ _ hw (lv_sub hl [2, 3, 4, 5, 0] rfl)
  have hw : g_W D A s [(sc, .inr (2, [.ref tx, x1])), (tx, .inl (E 2, 120, .inl (txF tt))), (ra, .inl (E 0, 18, .inl (rtP g tt a0 row 0)))] H locs := by
    have e2 : g = (rtP g tt a0 row 0) := by exact rt_0 g tt a0 row
    rw [e2] at hw
    exact hw
  exact J3 3 0 (by omega)   _ _ _ hw (lv_sub hl [1, 2, 3, 4, 0] rfl)

theorem dX2_readInto_0 : decode cX2_readInto 0 = .ok (.aload_n 1, 1) := by decide +kernel
theorem dX2_readInto_1 : decode cX2_readInto 1 = .ok (.getfield 23, 3) := by decide +kernel
theorem dX2_readInto_4 : decode cX2_readInto 4 = .ok (.iconst 0, 1) := by decide +kernel
theorem dX2_readInto_5 : decode cX2_readInto 5 = .ok (.aload_n 0, 1) := by decide +kernel
theorem dX2_readInto_6 : decode cX2_readInto 6 = .ok (.iconst 1, 1) := by decide +kernel
theorem dX2_readInto_7 : decode cX2_readInto 7 = .ok (.invokevirtual 29, 3) := by decide +kernel
theorem dX2_readInto_10 : decode cX2_readInto 10 = .ok (.bipush 10, 2) := by decide +kernel
theorem dX2_readInto_12 : decode cX2_readInto 12 = .ok (.imul, 1) := by decide +kernel
theorem dX2_readInto_13 : decode cX2_readInto 13 = .ok (.aload_n 0, 1) := by decide +kernel
theorem dX2_readInto_14 : decode cX2_readInto 14 = .ok (.iconst 2, 1) := by decide +kernel
theorem dX2_readInto_15 : decode cX2_readInto 15 = .ok (.invokevirtual 29, 3) := by decide +kernel
theorem dX2_readInto_18 : decode cX2_readInto 18 = .ok (.iadd, 1) := by decide +kernel
theorem dX2_readInto_19 : decode cX2_readInto 19 = .ok (.iastore, 1) := by decide +kernel
theorem dX2_readInto_20 : decode cX2_readInto 20 = .ok (.aload_n 1, 1) := by decide +kernel
theorem dX2_readInto_21 : decode cX2_readInto 21 = .ok (.getfield 23, 3) := by decide +kernel
theorem dX2_readInto_24 : decode cX2_readInto 24 = .ok (.iconst 1, 1) := by decide +kernel
theorem dX2_readInto_25 : decode cX2_readInto 25 = .ok (.aload_n 0, 1) := by decide +kernel
theorem dX2_readInto_26 : decode cX2_readInto 26 = .ok (.iconst 3, 1) := by decide +kernel
theorem dX2_readInto_27 : decode cX2_readInto 27 = .ok (.invokevirtual 29, 3) := by decide +kernel
theorem dX2_readInto_30 : decode cX2_readInto 30 = .ok (.iastore, 1) := by decide +kernel
theorem dX2_readInto_31 : decode cX2_readInto 31 = .ok (.aload_n 1, 1) := by decide +kernel
theorem dX2_readInto_32 : decode cX2_readInto 32 = .ok (.getfield 23, 3) := by decide +kernel
theorem dX2_readInto_35 : decode cX2_readInto 35 = .ok (.iconst 2, 1) := by decide +kernel
theorem dX2_readInto_36 : decode cX2_readInto 36 = .ok (.aload_n 0, 1) := by decide +kernel
theorem dX2_readInto_37 : decode cX2_readInto 37 = .ok (.iconst 4, 1) := by decide +kernel
theorem dX2_readInto_38 : decode cX2_readInto 38 = .ok (.invokevirtual 29, 3) := by decide +kernel
theorem dX2_readInto_41 : decode cX2_readInto 41 = .ok (.iastore, 1) := by decide +kernel
theorem dX2_readInto_42 : decode cX2_readInto 42 = .ok (.aload_n 1, 1) := by decide +kernel
theorem dX2_readInto_43 : decode cX2_readInto 43 = .ok (.getfield 23, 3) := by decide +kernel
theorem dX2_readInto_46 : decode cX2_readInto 46 = .ok (.iconst 3, 1) := by decide +kernel
theorem dX2_readInto_47 : decode cX2_readInto 47 = .ok (.aload_n 0, 1) := by decide +kernel
theorem dX2_readInto_48 : decode cX2_readInto 48 = .ok (.iconst 5, 1) := by decide +kernel
theorem dX2_readInto_49 : decode cX2_readInto 49 = .ok (.invokevirtual 29, 3) := by decide +kernel
theorem dX2_readInto_52 : decode cX2_readInto 52 = .ok (.iastore, 1) := by decide +kernel
theorem dX2_readInto_53 : decode cX2_readInto 53 = .ok (.aload_n 2, 1) := by decide +kernel
theorem dX2_readInto_54 : decode cX2_readInto 54 = .ok (.iconst 0, 1) := by decide +kernel
theorem dX2_readInto_55 : decode cX2_readInto 55 = .ok (.putfield 33, 3) := by decide +kernel
theorem dX2_readInto_58 : decode cX2_readInto 58 = .ok (.aload_n 2, 1) := by decide +kernel
theorem dX2_readInto_59 : decode cX2_readInto 59 = .ok (.iconst 0, 1) := by decide +kernel
theorem dX2_readInto_60 : decode cX2_readInto 60 = .ok (.putfield 38, 3) := by decide +kernel
theorem dX2_readInto_63 : decode cX2_readInto 63 = .ok (.bipush 6, 2) := by decide +kernel
theorem dX2_readInto_65 : decode cX2_readInto 65 = .ok (.istore_n 3, 1) := by decide +kernel
theorem dX2_readInto_66 : decode cX2_readInto 66 = .ok (.iload_n 3, 1) := by decide +kernel
theorem dX2_readInto_67 : decode cX2_readInto 67 = .ok (.bipush 7, 2) := by decide +kernel
theorem dX2_readInto_69 : decode cX2_readInto 69 = .ok (.iadd, 1) := by decide +kernel
theorem dX2_readInto_70 : decode cX2_readInto 70 = .ok (.aload_n 0, 1) := by decide +kernel
theorem dX2_readInto_71 : decode cX2_readInto 71 = .ok (.getfield 15, 3) := by decide +kernel
theorem dX2_readInto_74 : decode cX2_readInto 74 = .ok (.if_icmp .gt 111, 3) := by decide +kernel
theorem dX2_readInto_77 : decode cX2_readInto 77 = .ok (.iload_n 3, 1) := by decide +kernel
theorem dX2_readInto_78 : decode cX2_readInto 78 = .ok (.bipush 7, 2) := by decide +kernel
theorem dX2_readInto_80 : decode cX2_readInto 80 = .ok (.iadd, 1) := by decide +kernel
theorem dX2_readInto_81 : decode cX2_readInto 81 = .ok (.bipush 120, 2) := by decide +kernel
theorem dX2_readInto_83 : decode cX2_readInto 83 = .ok (.if_icmp .gt 102, 3) := by decide +kernel
theorem dX2_readInto_86 : decode cX2_readInto 86 = .ok (.aload_n 0, 1) := by decide +kernel
theorem dX2_readInto_87 : decode cX2_readInto 87 = .ok (.getfield 9, 3) := by decide +kernel
theorem dX2_readInto_90 : decode cX2_readInto 90 = .ok (.iload_n 3, 1) := by decide +kernel
theorem dX2_readInto_91 : decode cX2_readInto 91 = .ok (.caload, 1) := by decide +kernel
theorem dX2_readInto_92 : decode cX2_readInto 92 = .ok (.bipush 119, 2) := by decide +kernel
theorem dX2_readInto_94 : decode cX2_readInto 94 = .ok (.if_icmp .ne 40, 3) := by decide +kernel
theorem dX2_readInto_97 : decode cX2_readInto 97 = .ok (.aload_n 2, 1) := by decide +kernel
theorem dX2_readInto_98 : decode cX2_readInto 98 = .ok (.getfield 33, 3) := by decide +kernel
theorem dX2_readInto_101 : decode cX2_readInto 101 = .ok (.bipush 6, 2) := by decide +kernel
theorem dX2_readInto_103 : decode cX2_readInto 103 = .ok (.if_icmp .ge 31, 3) := by decide +kernel
theorem dX2_readInto_106 : decode cX2_readInto 106 = .ok (.aload_n 0, 1) := by decide +kernel
theorem dX2_readInto_107 : decode cX2_readInto 107 = .ok (.iload_n 3, 1) := by decide +kernel
theorem dX2_readInto_108 : decode cX2_readInto 108 = .ok (.iconst 1, 1) := by decide +kernel
theorem dX2_readInto_109 : decode cX2_readInto 109 = .ok (.iadd, 1) := by decide +kernel
theorem dX2_readInto_110 : decode cX2_readInto 110 = .ok (.aload_n 1, 1) := by decide +kernel
theorem dX2_readInto_111 : decode cX2_readInto 111 = .ok (.getfield 41, 3) := by decide +kernel
theorem dX2_readInto_114 : decode cX2_readInto 114 = .ok (.aload_n 2, 1) := by decide +kernel
theorem dX2_readInto_115 : decode cX2_readInto 115 = .ok (.getfield 33, 3) := by decide +kernel
theorem dX2_readInto_118 : decode cX2_readInto 118 = .ok (.invokevirtual 44, 3) := by decide +kernel
theorem dX2_readInto_121 : decode cX2_readInto 121 = .ok (.aload_n 2, 1) := by decide +kernel
theorem dX2_readInto_122 : decode cX2_readInto 122 = .ok (.dup, 1) := by decide +kernel
theorem dX2_readInto_123 : decode cX2_readInto 123 = .ok (.getfield 33, 3) := by decide +kernel
theorem dX2_readInto_126 : decode cX2_readInto 126 = .ok (.iconst 1, 1) := by decide +kernel
theorem dX2_readInto_127 : decode cX2_readInto 127 = .ok (.iadd, 1) := by decide +kernel
theorem dX2_readInto_128 : decode cX2_readInto 128 = .ok (.putfield 33, 3) := by decide +kernel
theorem dX2_readInto_131 : decode cX2_readInto 131 = .ok (.goto 48, 3) := by decide +kernel
theorem dX2_readInto_134 : decode cX2_readInto 134 = .ok (.aload_n 0, 1) := by decide +kernel
theorem dX2_readInto_135 : decode cX2_readInto 135 = .ok (.getfield 9, 3) := by decide +kernel
theorem dX2_readInto_138 : decode cX2_readInto 138 = .ok (.iload_n 3, 1) := by decide +kernel
theorem dX2_readInto_139 : decode cX2_readInto 139 = .ok (.caload, 1) := by decide +kernel
theorem dX2_readInto_140 : decode cX2_readInto 140 = .ok (.bipush 102, 2) := by decide +kernel
theorem dX2_readInto_142 : decode cX2_readInto 142 = .ok (.if_icmp .ne 37, 3) := by decide +kernel
theorem dX2_readInto_145 : decode cX2_readInto 145 = .ok (.aload_n 2, 1) := by decide +kernel
theorem dX2_readInto_146 : decode cX2_readInto 146 = .ok (.getfield 38, 3) := by decide +kernel
theorem dX2_readInto_149 : decode cX2_readInto 149 = .ok (.bipush 6, 2) := by decide +kernel
theorem dX2_readInto_151 : decode cX2_readInto 151 = .ok (.if_icmp .ge 28, 3) := by decide +kernel
theorem dX2_readInto_154 : decode cX2_readInto 154 = .ok (.aload_n 0, 1) := by decide +kernel
theorem dX2_readInto_155 : decode cX2_readInto 155 = .ok (.iload_n 3, 1) := by decide +kernel
theorem dX2_readInto_156 : decode cX2_readInto 156 = .ok (.iconst 1, 1) := by decide +kernel
theorem dX2_readInto_157 : decode cX2_readInto 157 = .ok (.iadd, 1) := by decide +kernel
theorem dX2_readInto_158 : decode cX2_readInto 158 = .ok (.aload_n 2, 1) := by decide +kernel
theorem dX2_readInto_159 : decode cX2_readInto 159 = .ok (.getfield 48, 3) := by decide +kernel
theorem dX2_readInto_162 : decode cX2_readInto 162 = .ok (.aload_n 2, 1) := by decide +kernel
theorem dX2_readInto_163 : decode cX2_readInto 163 = .ok (.getfield 38, 3) := by decide +kernel
theorem dX2_readInto_166 : decode cX2_readInto 166 = .ok (.invokevirtual 44, 3) := by decide +kernel
theorem dX2_readInto_169 : decode cX2_readInto 169 = .ok (.aload_n 2, 1) := by decide +kernel
theorem dX2_readInto_170 : decode cX2_readInto 170 = .ok (.dup, 1) := by decide +kernel
theorem dX2_readInto_171 : decode cX2_readInto 171 = .ok (.getfield 38, 3) := by decide +kernel
theorem dX2_readInto_174 : decode cX2_readInto 174 = .ok (.iconst 1, 1) := by decide +kernel
theorem dX2_readInto_175 : decode cX2_readInto 175 = .ok (.iadd, 1) := by decide +kernel
theorem dX2_readInto_176 : decode cX2_readInto 176 = .ok (.putfield 38, 3) := by decide +kernel
theorem dX2_readInto_179 : decode cX2_readInto 179 = .ok (.iinc 3 7, 3) := by decide +kernel
theorem dX2_readInto_182 : decode cX2_readInto 182 = .ok (.goto (-116), 3) := by decide +kernel
theorem dX2_readInto_185 : decode cX2_readInto 185 = .ok (.return_, 1) := by decide +kernel
set_option maxRecDepth 20000 in
theorem ggX2_readInto_X2_digit : GoodIn wsX2_readInto wsX2_digit := goodIn_r _ [7, 2, 33, 34] rfl (by decide +kernel)
set_option maxRecDepth 20000 in
theorem gX2_readInto_X2_digit : GoodIn wsX2_readInto (wsV RX2 29 RX2 yX2_digit wsX2_digit) := goodIn_app (goodIn_of _ (by decide +kernel)) ggX2_readInto_X2_digit
set_option maxRecDepth 20000 in
theorem ggX2_readInto_X2_readTriple : GoodIn wsX2_readInto wsX2_readTriple := goodIn_r _ [11, 2, 3, 4, 5, 6, 7, 33, 34] rfl (by decide +kernel)
set_option maxRecDepth 20000 in
theorem gX2_readInto_X2_readTriple : GoodIn wsX2_readInto (wsV RX2 44 RX2 yX2_readTriple wsX2_readTriple) := goodIn_app (goodIn_of _ (by decide +kernel)) ggX2_readInto_X2_readTriple
theorem inX2_readInto_X1 : ∀ w ∈ u_ws RX1 TX1 10, w ∈ wsX2_readInto := fun w h => List.mem_cons_of_mem _ (List.mem_append_left _ (List.mem_append_right _ h))
theorem inX2_readInto_X2 : ∀ w ∈ u_ws RX2 TX2 2, w ∈ wsX2_readInto := fun w h => List.mem_cons_of_mem _ (List.mem_append_right _ h)
theorem inX2_readInto_X4 : ∀ w ∈ u_ws RX4 TX4 11, w ∈ wsX2_readInto := fun w h => List.mem_cons_of_mem _ (List.mem_append_left _ (List.mem_append_left _ (List.mem_append_right _ h)))
set_option maxRecDepth 100000 in
set_option maxHeartbeats 4000000 in
theorem m_X2_readInto {l : Launch} {D : va_G} {E : Nat → ClassId} {T : Nat → Nat} (sc : Nat) (tx : Nat) (len : Nat) (h : Nat) (ht : Nat) (hq : Nat) (pl : Nat) (fa : Nat) (v0 : Value) (v3 : Value) (v4 : Value) (v5 : Value) (v6 : Value) (v7 : Value) (v8 : Value) (v9 : Value) (v10 : Value) (u1 : Value) (u2 : Value) (u3 : Value) (u4 : Value) (u5 : Value) (u6 : Value) (u7 : Value) (u8 : Value) (u9 : Value) (tt : Nat → Nat) (g : Nat → Int32) (w : Nat → Int32) (fl : Nat → Int32) (n : Nat) (hl9 : len = 6 + 7 * n) (hn : n ≤ 12) (ht9 : ∀ j, tt j < 256) (hall : ∀ j, j < len → okB tt j = true) : g_M l D E T yX2_readInto wsX2_readInto 2 46 [.ref sc, .ref h, .ref pl] [(sc, .inr (2, [.ref tx, .int (nI len)])), (tx, .inl (E 2, 120, .inl (txF tt))), (h, .inr (4, [v0, .ref ht, .ref hq, v3, v4, v5, v6, v7, v8, v9, v10])), (pl, .inr (1, [.ref fa, u1, u2, u3, u4, u5, u6, u7, u8, u9])), (ht, .inl (E 0, 4, .inl g)), (hq, .inl (E 0, 18, .inl w)), (fa, .inl (E 0, 18, .inl fl))] [(sc, .inr (2, [.ref tx, .int (nI len)])), (tx, .inl (E 2, 120, .inl (txF tt))), (h, .inr (4, [v0, .ref ht, .ref hq, v3, v4, v5, v6, v7, v8, v9, v10])), (pl, .inr (1, [.ref fa, .int (nI (cfN tt (6 + 7 * n))), .int (nI (cwN tt (6 + 7 * n))), u3, u4, u5, u6, u7, u8, u9])), (ht, .inl (E 0, 4, .inl (seF tt))), (hq, .inl (E 0, 18, .inl (wtN tt w n))), (fa, .inl (E 0, 18, .inl (flN tt fl n)))] none := by
  refine g_M.of (cc := cX2_readInto) (nL := 4) (ret := none) (own := RX2) (lv := [(0, .ref sc), (1, .ref h), (2, .ref pl)]) (by decide) rfl rfl (Nat.le_of_ble_eq_true rfl) rfl ?_
  intro p e R s m args below meth c A Q H locs ls hR hQ hc hr hw hl
  have hx := hc.1
  have hb := hc.2.1
  have hts := hc.2.2.2.1
  have hown := hc.2.2.2.2.1
  refine lv_aload_n hx hb dX2_readInto_0 rfl (lv_at hl 1 rfl) ?_
  refine g_getN (TT := TX4) hc hw inX2_readInto_X4 2 1 18 rfl rfl (by decide) rfl rfl dX2_readInto_1 ?_
  refine lv_iconst (v := 0) hx hb dX2_readInto_4 (by decide) ?_
  refine lv_aload_n hx hb dX2_readInto_5 rfl (lv_at hl 0 rfl) ?_
  refine lv_iconst (v := 1) hx hb dX2_readInto_6 (by decide) ?_
  refine g_cV (As := [.int 1]) (n := 1) (rest := [.int 0, .ref ht]) (wc := [(sc, .inr (2, [.ref tx, .int (nI len)])), (tx, .inl (E 2, 120, .inl (txF tt)))]) (w1 := [(sc, .inr (2, [.ref tx, .int (nI len)])), (tx, .inl (E 2, 120, .inl (txF tt)))]) (bytes := cX2_digit) (maxL := 2) (ret := (some .int)) hc hw hl.1 (m_X2_digit (l := l) (D := D) (E := E) (T := T) sc tx 1 (.int (nI len)) tt (by first | assumption | omega | decide)) gX2_readInto_X2_digit rfl (by decide +kernel) (by rw [hR]; exact ⟨Nat.le_of_ble_eq_true rfl, Nat.le_of_ble_eq_true rfl⟩) [0, 1] 0 2 rfl rfl (by decide) rfl [sc, tx] rfl rfl rfl rfl (Nat.le_of_ble_eq_true rfl) dX2_readInto_7 ⟨Nat.zero_le _, Nat.zero_le _⟩ (fun H locs hw => ?_)
  have hw : g_W D A s [(sc, .inr (2, [.ref tx, .int (nI len)])), (tx, .inl (E 2, 120, .inl (txF tt))), (h, .inr (4, [v0, .ref ht, .ref hq, v3, v4, v5, v6, v7, v8, v9, v10])), (pl, .inr (1, [.ref fa, u1, u2, u3, u4, u5, u6, u7, u8, u9])), (ht, .inl (E 0, 4, .inl g)), (hq, .inl (E 0, 18, .inl w)), (fa, .inl (E 0, 18, .inl fl))] H locs := hw
  refine lv_bipush (v := 10) hx hb dX2_readInto_10 (by decide) ?_
  refine lv_imul hx hb dX2_readInto_12 ?_
  refine lv_aload_n hx hb dX2_readInto_13 rfl (lv_at hl 0 rfl) ?_
  refine lv_iconst (v := 2) hx hb dX2_readInto_14 (by decide) ?_
  refine g_cV (As := [.int 2]) (n := 1) (rest := [.int ((dgF tt 1) * 10), .int 0, .ref ht]) (wc := [(sc, .inr (2, [.ref tx, .int (nI len)])), (tx, .inl (E 2, 120, .inl (txF tt)))]) (w1 := [(sc, .inr (2, [.ref tx, .int (nI len)])), (tx, .inl (E 2, 120, .inl (txF tt)))]) (bytes := cX2_digit) (maxL := 2) (ret := (some .int)) hc hw hl.1 (m_X2_digit (l := l) (D := D) (E := E) (T := T) sc tx 2 (.int (nI len)) tt (by first | assumption | omega | decide)) gX2_readInto_X2_digit rfl (by decide +kernel) (by rw [hR]; exact ⟨Nat.le_of_ble_eq_true rfl, Nat.le_of_ble_eq_true rfl⟩) [0, 1] 0 2 rfl rfl (by decide) rfl [sc, tx] rfl rfl rfl rfl (Nat.le_of_ble_eq_true rfl) dX2_readInto_15 ⟨Nat.zero_le _, Nat.zero_le _⟩ (fun H locs hw => ?_)
  have hw : g_W D A s [(sc, .inr (2, [.ref tx, .int (nI len)])), (tx, .inl (E 2, 120, .inl (txF tt))), (h, .inr (4, [v0, .ref ht, .ref hq, v3, v4, v5, v6, v7, v8, v9, v10])), (pl, .inr (1, [.ref fa, u1, u2, u3, u4, u5, u6, u7, u8, u9])), (ht, .inl (E 0, 4, .inl g)), (hq, .inl (E 0, 18, .inl w)), (fa, .inl (E 0, 18, .inl fl))] H locs := hw
  refine lv_iadd hx hb dX2_readInto_18 ?_
  refine g_ist hc hw 4 0 rfl rfl (by omega) (by decide) dX2_readInto_19 (fun H locs hw => ?_)
  have hw : g_W D A s [(sc, .inr (2, [.ref tx, .int (nI len)])), (tx, .inl (E 2, 120, .inl (txF tt))), (h, .inr (4, [v0, .ref ht, .ref hq, v3, v4, v5, v6, v7, v8, v9, v10])), (pl, .inr (1, [.ref fa, u1, u2, u3, u4, u5, u6, u7, u8, u9])), (ht, .inl (E 0, 4, .inl (upd g 0 (((dgF tt 1) * 10) + (dgF tt 2))))), (hq, .inl (E 0, 18, .inl w)), (fa, .inl (E 0, 18, .inl fl))] H locs := hw
  refine lv_aload_n hx hb dX2_readInto_20 rfl (lv_at hl 1 rfl) ?_
  refine g_getN (TT := TX4) hc hw inX2_readInto_X4 2 1 18 rfl rfl (by decide) rfl rfl dX2_readInto_21 ?_
  refine lv_iconst (v := 1) hx hb dX2_readInto_24 (by decide) ?_
  refine lv_aload_n hx hb dX2_readInto_25 rfl (lv_at hl 0 rfl) ?_
  refine lv_iconst (v := 3) hx hb dX2_readInto_26 (by decide) ?_
  refine g_cV (As := [.int 3]) (n := 1) (rest := [.int 1, .ref ht]) (wc := [(sc, .inr (2, [.ref tx, .int (nI len)])), (tx, .inl (E 2, 120, .inl (txF tt)))]) (w1 := [(sc, .inr (2, [.ref tx, .int (nI len)])), (tx, .inl (E 2, 120, .inl (txF tt)))]) (bytes := cX2_digit) (maxL := 2) (ret := (some .int)) hc hw hl.1 (m_X2_digit (l := l) (D := D) (E := E) (T := T) sc tx 3 (.int (nI len)) tt (by first | assumption | omega | decide)) gX2_readInto_X2_digit rfl (by decide +kernel) (by rw [hR]; exact ⟨Nat.le_of_ble_eq_true rfl, Nat.le_of_ble_eq_true rfl⟩) [0, 1] 0 2 rfl rfl (by decide) rfl [sc, tx] rfl rfl rfl rfl (Nat.le_of_ble_eq_true rfl) dX2_readInto_27 ⟨Nat.zero_le _, Nat.zero_le _⟩ (fun H locs hw => ?_)
  have hw : g_W D A s [(sc, .inr (2, [.ref tx, .int (nI len)])), (tx, .inl (E 2, 120, .inl (txF tt))), (h, .inr (4, [v0, .ref ht, .ref hq, v3, v4, v5, v6, v7, v8, v9, v10])), (pl, .inr (1, [.ref fa, u1, u2, u3, u4, u5, u6, u7, u8, u9])), (ht, .inl (E 0, 4, .inl (upd g 0 (((dgF tt 1) * 10) + (dgF tt 2))))), (hq, .inl (E 0, 18, .inl w)), (fa, .inl (E 0, 18, .inl fl))] H locs := hw
  refine g_ist hc hw 4 1 rfl rfl (by omega) (by decide) dX2_readInto_30 (fun H locs hw => ?_)
  have hw : g_W D A s [(sc, .inr (2, [.ref tx, .int (nI len)])), (tx, .inl (E 2, 120, .inl (txF tt))), (h, .inr (4, [v0, .ref ht, .ref hq, v3, v4, v5, v6, v7, v8, v9, v10])), (pl, .inr (1, [.ref fa, u1, u2, u3, u4, u5, u6, u7, u8, u9])), (ht, .inl (E 0, 4, .inl (upd (upd g 0 (((dgF tt 1) * 10) + (dgF tt 2))) 1 (dgF tt 3)))), (hq, .inl (E 0, 18, .inl w)), (fa, .inl (E 0, 18, .inl fl))] H locs := hw
  refine lv_aload_n hx hb dX2_readInto_31 rfl (lv_at hl 1 rfl) ?_
  refine g_getN (TT := TX4) hc hw inX2_readInto_X4 2 1 18 rfl rfl (by decide) rfl rfl dX2_readInto_32 ?_
  refine lv_iconst (v := 2) hx hb dX2_readInto_35 (by decide) ?_
  refine lv_aload_n hx hb dX2_readInto_36 rfl (lv_at hl 0 rfl) ?_
  refine lv_iconst (v := 4) hx hb dX2_readInto_37 (by decide) ?_
  refine g_cV (As := [.int 4]) (n := 1) (rest := [.int 2, .ref ht]) (wc := [(sc, .inr (2, [.ref tx, .int (nI len)])), (tx, .inl (E 2, 120, .inl (txF tt)))]) (w1 := [(sc, .inr (2, [.ref tx, .int (nI len)])), (tx, .inl (E 2, 120, .inl (txF tt)))]) (bytes := cX2_digit) (maxL := 2) (ret := (some .int)) hc hw hl.1 (m_X2_digit (l := l) (D := D) (E := E) (T := T) sc tx 4 (.int (nI len)) tt (by first | assumption | omega | decide)) gX2_readInto_X2_digit rfl (by decide +kernel) (by rw [hR]; exact ⟨Nat.le_of_ble_eq_true rfl, Nat.le_of_ble_eq_true rfl⟩) [0, 1] 0 2 rfl rfl (by decide) rfl [sc, tx] rfl rfl rfl rfl (Nat.le_of_ble_eq_true rfl) dX2_readInto_38 ⟨Nat.zero_le _, Nat.zero_le _⟩ (fun H locs hw => ?_)
  have hw : g_W D A s [(sc, .inr (2, [.ref tx, .int (nI len)])), (tx, .inl (E 2, 120, .inl (txF tt))), (h, .inr (4, [v0, .ref ht, .ref hq, v3, v4, v5, v6, v7, v8, v9, v10])), (pl, .inr (1, [.ref fa, u1, u2, u3, u4, u5, u6, u7, u8, u9])), (ht, .inl (E 0, 4, .inl (upd (upd g 0 (((dgF tt 1) * 10) + (dgF tt 2))) 1 (dgF tt 3)))), (hq, .inl (E 0, 18, .inl w)), (fa, .inl (E 0, 18, .inl fl))] H locs := hw
  refine g_ist hc hw 4 2 rfl rfl (by omega) (by decide) dX2_readInto_41 (fun H locs hw => ?_)
  have hw : g_W D A s [(sc, .inr (2, [.ref tx, .int (nI len)])), (tx, .inl (E 2, 120, .inl (txF tt))), (h, .inr (4, [v0, .ref ht, .ref hq, v3, v4, v5, v6, v7, v8, v9, v10])), (pl, .inr (1, [.ref fa, u1, u2, u3, u4, u5, u6, u7, u8, u9])), (ht, .inl (E 0, 4, .inl (upd (upd (upd g 0 (((dgF tt 1) * 10) + (dgF tt 2))) 1 (dgF tt 3)) 2 (dgF tt 4)))), (hq, .inl (E 0, 18, .inl w)), (fa, .inl (E 0, 18, .inl fl))] H locs := hw
  refine lv_aload_n hx hb dX2_readInto_42 rfl (lv_at hl 1 rfl) ?_
  refine g_getN (TT := TX4) hc hw inX2_readInto_X4 2 1 18 rfl rfl (by decide) rfl rfl dX2_readInto_43 ?_
  refine lv_iconst (v := 3) hx hb dX2_readInto_46 (by decide) ?_
  refine lv_aload_n hx hb dX2_readInto_47 rfl (lv_at hl 0 rfl) ?_
  refine lv_iconst (v := 5) hx hb dX2_readInto_48 (by decide) ?_
  refine g_cV (As := [.int 5]) (n := 1) (rest := [.int 3, .ref ht]) (wc := [(sc, .inr (2, [.ref tx, .int (nI len)])), (tx, .inl (E 2, 120, .inl (txF tt)))]) (w1 := [(sc, .inr (2, [.ref tx, .int (nI len)])), (tx, .inl (E 2, 120, .inl (txF tt)))]) (bytes := cX2_digit) (maxL := 2) (ret := (some .int)) hc hw hl.1 (m_X2_digit (l := l) (D := D) (E := E) (T := T) sc tx 5 (.int (nI len)) tt (by first | assumption | omega | decide)) gX2_readInto_X2_digit rfl (by decide +kernel) (by rw [hR]; exact ⟨Nat.le_of_ble_eq_true rfl, Nat.le_of_ble_eq_true rfl⟩) [0, 1] 0 2 rfl rfl (by decide) rfl [sc, tx] rfl rfl rfl rfl (Nat.le_of_ble_eq_true rfl) dX2_readInto_49 ⟨Nat.zero_le _, Nat.zero_le _⟩ (fun H locs hw => ?_)
  have hw : g_W D A s [(sc, .inr (2, [.ref tx, .int (nI len)])), (tx, .inl (E 2, 120, .inl (txF tt))), (h, .inr (4, [v0, .ref ht, .ref hq, v3, v4, v5, v6, v7, v8, v9, v10])), (pl, .inr (1, [.ref fa, u1, u2, u3, u4, u5, u6, u7, u8, u9])), (ht, .inl (E 0, 4, .inl (upd (upd (upd g 0 (((dgF tt 1) * 10) + (dgF tt 2))) 1 (dgF tt 3)) 2 (dgF tt 4)))), (hq, .inl (E 0, 18, .inl w)), (fa, .inl (E 0, 18, .inl fl))] H locs := hw
  refine g_ist hc hw 4 3 rfl rfl (by omega) (by decide) dX2_readInto_52 (fun H locs hw => ?_)
  have hw : g_W D A s [(sc, .inr (2, [.ref tx, .int (nI len)])), (tx, .inl (E 2, 120, .inl (txF tt))), (h, .inr (4, [v0, .ref ht, .ref hq, v3, v4, v5, v6, v7, v8, v9, v10])), (pl, .inr (1, [.ref fa, u1, u2, u3, u4, u5, u6, u7, u8, u9])), (ht, .inl (E 0, 4, .inl (upd (upd (upd (upd g 0 (((dgF tt 1) * 10) + (dgF tt 2))) 1 (dgF tt 3)) 2 (dgF tt 4)) 3 (dgF tt 5)))), (hq, .inl (E 0, 18, .inl w)), (fa, .inl (E 0, 18, .inl fl))] H locs := hw
  refine lv_aload_n hx hb dX2_readInto_53 rfl (lv_at hl 2 rfl) ?_
  refine lv_iconst (v := 0) hx hb dX2_readInto_54 (by decide) ?_
  refine g_putN (TT := TX1) hc hw inX2_readInto_X1 tyX1 tyX1_ok nmX1 3 2 7 rfl rfl (by decide) rfl rfl rfl rfl (Nat.le_of_ble_eq_true rfl) dX2_readInto_55 (fun H locs hw => ?_)
  have hw : g_W D A s [(sc, .inr (2, [.ref tx, .int (nI len)])), (tx, .inl (E 2, 120, .inl (txF tt))), (h, .inr (4, [v0, .ref ht, .ref hq, v3, v4, v5, v6, v7, v8, v9, v10])), (pl, .inr (1, [.ref fa, u1, .int 0, u3, u4, u5, u6, u7, u8, u9])), (ht, .inl (E 0, 4, .inl (upd (upd (upd (upd g 0 (((dgF tt 1) * 10) + (dgF tt 2))) 1 (dgF tt 3)) 2 (dgF tt 4)) 3 (dgF tt 5)))), (hq, .inl (E 0, 18, .inl w)), (fa, .inl (E 0, 18, .inl fl))] H locs := hw
  refine lv_aload_n hx hb dX2_readInto_58 rfl (lv_at hl 2 rfl) ?_
  refine lv_iconst (v := 0) hx hb dX2_readInto_59 (by decide) ?_
  refine g_putN (TT := TX1) hc hw inX2_readInto_X1 tyX1 tyX1_ok nmX1 3 1 5 rfl rfl (by decide) rfl rfl rfl rfl (Nat.le_of_ble_eq_true rfl) dX2_readInto_60 (fun H locs hw => ?_)
  have hw : g_W D A s [(sc, .inr (2, [.ref tx, .int (nI len)])), (tx, .inl (E 2, 120, .inl (txF tt))), (h, .inr (4, [v0, .ref ht, .ref hq, v3, v4, v5, v6, v7, v8, v9, v10])), (pl, .inr (1, [.ref fa, .int 0, .int 0, u3, u4, u5, u6, u7, u8, u9])), (ht, .inl (E 0, 4, .inl (upd (upd (upd (upd g 0 (((dgF tt 1) * 10) + (dgF tt 2))) 1 (dgF tt 3)) 2 (dgF tt 4)) 3 (dgF tt 5)))), (hq, .inl (E 0, 18, .inl w)), (fa, .inl (E 0, 18, .inl fl))] H locs := hw
  refine lv_bipush (v := 6) hx hb dX2_readInto_63 (by decide) ?_
  refine lv_istore_n (lv' := [(3, .int 6), (0, .ref sc), (1, .ref h), (2, .ref pl)]) hx hb dX2_readInto_65 rfl hl (by decide) rfl (fun ls hl => ?_)
  have J66 : ∀ (k9 : Nat) (q9 : Nat), q9 + k9 = n → ∀ (H : Heap) (locs : List Loc) (ls : Array Slot), g_W D A s [(sc, .inr (2, [.ref tx, .int (nI len)])), (tx, .inl (E 2, 120, .inl (txF tt))), (h, .inr (4, [v0, .ref ht, .ref hq, v3, v4, v5, v6, v7, v8, v9, v10])), (pl, .inr (1, [.ref fa, .int (nI (cfN tt (6 + 7 * q9))), .int (nI (cwN tt (6 + 7 * q9))), u3, u4, u5, u6, u7, u8, u9])), (ht, .inl (E 0, 4, .inl (seF tt))), (hq, .inl (E 0, 18, .inl (wtN tt w q9))), (fa, .inl (E 0, 18, .inl (flN tt fl q9)))] H locs → lv_has ls 4 [(0, .ref sc), (1, .ref h), (2, .ref pl), (3, .int (nI (6 + 7 * q9)))] → W p l e R s m args below meth c H locs 0 0 Q (F0 m 66 ls []) := by
    intro k9
    induction k9 with
    | zero =>
      intro q9 h9   H locs ls hw hl
      have h9 : n = q9 := Eq.symm h9
      subst h9
      refine lv_iload_n hx hb dX2_readInto_66 rfl (lv_at hl 3 rfl) ?_
      refine lv_bipush (v := 7) hx hb dX2_readInto_67 (by decide) ?_
      refine lv_iadd hx hb dX2_readInto_69 ?_
      refine W.eq (congrArg (fun z => F0 m 70 ls (.int z :: [])) (show ((nI (6 + 7 * n)) + 7 : Int32) = nI ((6 + 7 * n) + 7) from (n_add rfl rfl))) ?_
      refine lv_aload_n hx hb dX2_readInto_70 rfl (lv_at hl 0 rfl) ?_
      refine g_get (TT := TX2) hc hw inX2_readInto_X2 0 1 1 rfl rfl (by decide) rfl rfl dX2_readInto_71 ?_
      refine lv_icmp_gt (tgt := 185) hx hb dX2_readInto_74 (by decide) (fun c_74 => ?_) (fun c_74 => absurd (nI_lt (show len < 6 + 7 * n + 7 by omega) (by omega)) c_74)
      exact g_vret hQ hc hw hr rfl rfl dX2_readInto_185
    | succ k9 ih =>
      intro q9 h9   H locs ls hw hl
      have h9b : q9 < n := by omega
      refine lv_iload_n hx hb dX2_readInto_66 rfl (lv_at hl 3 rfl) ?_
      refine lv_bipush (v := 7) hx hb dX2_readInto_67 (by decide) ?_
      refine lv_iadd hx hb dX2_readInto_69 ?_
      refine W.eq (congrArg (fun z => F0 m 70 ls (.int z :: [])) (show ((nI (6 + 7 * q9)) + 7 : Int32) = nI ((6 + 7 * q9) + 7) from (n_add rfl rfl))) ?_
      refine lv_aload_n hx hb dX2_readInto_70 rfl (lv_at hl 0 rfl) ?_
      refine g_get (TT := TX2) hc hw inX2_readInto_X2 0 1 1 rfl rfl (by decide) rfl rfl dX2_readInto_71 ?_
      refine lv_icmp_gt (tgt := 185) hx hb dX2_readInto_74 (by decide) (fun c_74 => absurd c_74 (nI_nlt (show 6 + 7 * q9 + 7 ≤ len by omega) (by omega))) (fun c_74 => ?_)
      refine lv_iload_n hx hb dX2_readInto_77 rfl (lv_at hl 3 rfl) ?_
      refine lv_bipush (v := 7) hx hb dX2_readInto_78 (by decide) ?_
      refine lv_iadd hx hb dX2_readInto_80 ?_
      refine W.eq (congrArg (fun z => F0 m 81 ls (.int z :: [])) (show ((nI (6 + 7 * q9)) + 7 : Int32) = nI ((6 + 7 * q9) + 7) from (n_add rfl rfl))) ?_
      refine lv_bipush (v := 120) hx hb dX2_readInto_81 (by decide) ?_
      refine lv_icmp_gt (tgt := 185) hx hb dX2_readInto_83 (by decide) (fun c_83 => absurd c_83 (nI_nlt (show 6 + 7 * q9 + 7 ≤ 120 by omega) (by decide))) (fun c_83 => ?_)
      have hti := ht9 (6 + 7 * q9)
      have hk9 := ok_st (hall (6 + 7 * q9) (by omega))
      refine lv_aload_n hx hb dX2_readInto_86 rfl (lv_at hl 0 rfl) ?_
      refine g_get (TT := TX2) hc hw inX2_readInto_X2 0 0 2 rfl rfl (by decide) rfl rfl dX2_readInto_87 ?_
      refine lv_iload_n hx hb dX2_readInto_90 rfl (lv_at hl 3 rfl) ?_
      refine g_cld hc hw 1 (6 + 7 * q9) rfl rfl (by omega) (by decide) dX2_readInto_91 ?_
      refine lv_bipush (v := 119) hx hb dX2_readInto_92 (by decide) ?_
      refine lv_icmp_ne (tgt := 134) hx hb dX2_readInto_94 (by decide) (fun c_94 => ?_) (fun c_94 => ?_)
      · skip
        have n_94 : ¬ (tt (6 + 7 * q9)) = 119 := nf_neT rfl rfl (by omega) (by omega) c_94
        have hf9 : tt (6 + 7 * q9) = 102 := by omega
        refine lv_aload_n hx hb dX2_readInto_134 rfl (lv_at hl 0 rfl) ?_
        refine g_get (TT := TX2) hc hw inX2_readInto_X2 0 0 2 rfl rfl (by decide) rfl rfl dX2_readInto_135 ?_
        refine lv_iload_n hx hb dX2_readInto_138 rfl (lv_at hl 3 rfl) ?_
        refine g_cld hc hw 1 (6 + 7 * q9) rfl rfl (by omega) (by decide) dX2_readInto_139 ?_
        refine lv_bipush (v := 102) hx hb dX2_readInto_140 (by decide) ?_
        refine lv_icmp_ne (tgt := 179) hx hb dX2_readInto_142 (by decide) (fun c_142 => absurd (congrArg nI hf9) c_142) (fun c_142 => ?_)
        refine lv_aload_n hx hb dX2_readInto_145 rfl (lv_at hl 2 rfl) ?_
        refine g_getN (TT := TX1) hc hw inX2_readInto_X1 3 1 5 rfl rfl (by decide) rfl rfl dX2_readInto_146 ?_
        refine lv_bipush (v := 6) hx hb dX2_readInto_149 (by decide) ?_
        refine lv_icmp_ge (tgt := 179) hx hb dX2_readInto_151 (by decide) (fun c_151 => absurd c_151 (nI_ge (show cfN tt (6 + 7 * q9) < 6 by omega) (by decide))) (fun c_151 => ?_)
        refine lv_aload_n hx hb dX2_readInto_154 rfl (lv_at hl 0 rfl) ?_
        refine lv_iload_n hx hb dX2_readInto_155 rfl (lv_at hl 3 rfl) ?_
        refine lv_iconst (v := 1) hx hb dX2_readInto_156 (by decide) ?_
        refine lv_iadd hx hb dX2_readInto_157 ?_
        refine W.eq (congrArg (fun z => F0 m 158 ls (.int z :: [.ref sc])) (show ((nI (6 + 7 * q9)) + 1 : Int32) = nI (6 + 7 * q9 + 1) from (n_add rfl rfl))) ?_
        refine lv_aload_n hx hb dX2_readInto_158 rfl (lv_at hl 2 rfl) ?_
        refine g_getN (TT := TX1) hc hw inX2_readInto_X1 3 0 3 rfl rfl (by decide) rfl rfl dX2_readInto_159 ?_
        refine lv_aload_n hx hb dX2_readInto_162 rfl (lv_at hl 2 rfl) ?_
        refine g_getN (TT := TX1) hc hw inX2_readInto_X1 3 1 5 rfl rfl (by decide) rfl rfl dX2_readInto_163 ?_
        refine g_cV (As := [.int (nI (6 + 7 * q9 + 1)), .ref fa, .int (nI (cfN tt (6 + 7 * q9)))]) (n := 3) (rest := []) (wc := [(sc, .inr (2, [.ref tx, .int (nI len)])), (tx, .inl (E 2, 120, .inl (txF tt))), (fa, .inl (E 0, 18, .inl (flN tt fl q9)))]) (w1 := [(sc, .inr (2, [.ref tx, .int (nI len)])), (tx, .inl (E 2, 120, .inl (txF tt))), (fa, .inl (E 0, 18, .inl (rtP (flN tt fl q9) tt (6 + 7 * q9 + 1) (cfN tt (6 + 7 * q9)) 3)))]) (bytes := cX2_readTriple) (maxL := 6) (ret := none) hc hw hl.1 (m_X2_readTriple (l := l) (D := D) (E := E) (T := T) sc tx (6 + 7 * q9 + 1) fa (cfN tt (6 + 7 * q9)) (.int (nI len)) tt (flN tt fl q9) (by omega) (by omega) (by first | assumption | omega | decide)) gX2_readInto_X2_readTriple rfl (by decide +kernel) (by rw [hR]; exact ⟨Nat.le_of_ble_eq_true rfl, Nat.le_of_ble_eq_true rfl⟩) [0, 1, 6] 0 2 rfl rfl (by decide) rfl [sc, tx, fa] rfl rfl rfl rfl (Nat.le_of_ble_eq_true rfl) dX2_readInto_166 ⟨Nat.zero_le _, Nat.zero_le _⟩ (fun H locs hw => ?_)
        have hw : g_W D A s [(sc, .inr (2, [.ref tx, .int (nI len)])), (tx, .inl (E 2, 120, .inl (txF tt))), (h, .inr (4, [v0, .ref ht, .ref hq, v3, v4, v5, v6, v7, v8, v9, v10])), (pl, .inr (1, [.ref fa, .int (nI (cfN tt (6 + 7 * q9))), .int (nI (cwN tt (6 + 7 * q9))), u3, u4, u5, u6, u7, u8, u9])), (ht, .inl (E 0, 4, .inl (seF tt))), (hq, .inl (E 0, 18, .inl (wtN tt w q9))), (fa, .inl (E 0, 18, .inl (rtP (flN tt fl q9) tt (6 + 7 * q9 + 1) (cfN tt (6 + 7 * q9)) 3)))] H locs := hw
        refine lv_aload_n hx hb dX2_readInto_169 rfl (lv_at hl 2 rfl) ?_
        refine lv_dup hx hb dX2_readInto_170 rfl ?_
        refine g_getN (TT := TX1) hc hw inX2_readInto_X1 3 1 5 rfl rfl (by decide) rfl rfl dX2_readInto_171 ?_
        refine lv_iconst (v := 1) hx hb dX2_readInto_174 (by decide) ?_
        refine lv_iadd hx hb dX2_readInto_175 ?_
        refine W.eq (congrArg (fun z => F0 m 176 ls (.int z :: [.ref pl])) (show ((nI (cfN tt (6 + 7 * q9))) + 1 : Int32) = nI (cfN tt (6 + 7 * q9) + 1) from (n_add rfl rfl))) ?_
        refine g_putN (TT := TX1) hc hw inX2_readInto_X1 tyX1 tyX1_ok nmX1 3 1 5 rfl rfl (by decide) rfl rfl rfl rfl (Nat.le_of_ble_eq_true rfl) dX2_readInto_176 (fun H locs hw => ?_)
        have hw : g_W D A s [(sc, .inr (2, [.ref tx, .int (nI len)])), (tx, .inl (E 2, 120, .inl (txF tt))), (h, .inr (4, [v0, .ref ht, .ref hq, v3, v4, v5, v6, v7, v8, v9, v10])), (pl, .inr (1, [.ref fa, .int (nI (cfN tt (6 + 7 * q9) + 1)), .int (nI (cwN tt (6 + 7 * q9))), u3, u4, u5, u6, u7, u8, u9])), (ht, .inl (E 0, 4, .inl (seF tt))), (hq, .inl (E 0, 18, .inl (wtN tt w q9))), (fa, .inl (E 0, 18, .inl (rtP (flN tt fl q9) tt (6 + 7 * q9 + 1) (cfN tt (6 + 7 * q9)) 3)))] H locs := hw
        refine lv_iinc (v := nI ((6 + 7 * q9) + 7)) (lv' := [(3, .int (nI ((6 + 7 * q9) + 7))), (0, .ref sc), (1, .ref h), (2, .ref pl)]) hx hb dX2_readInto_179 hl (k := 3) rfl (n_inc7 rfl) (by decide) rfl (fun ls hl => ?_)
        refine lv_goto (tgt := 66) hx hb dX2_readInto_182 (by decide) ?_
        have hw : g_W D A s [(sc, .inr (2, [.ref tx, .int (nI len)])), (tx, .inl (E 2, 120, .inl (txF tt))), (h, .inr (4, [v0, .ref ht, .ref hq, v3, v4, v5, v6, v7, v8, v9, v10])), (pl, .inr (1, [.ref fa, .int (nI (cfN tt (6 + 7 * (q9 + 1)))), .int (nI (cwN tt (6 + 7 * (q9 + 1)))), u3, u4, u5, u6, u7, u8, u9])), (ht, .inl (E 0, 4, .inl (seF tt))), (hq, .inl (E 0, 18, .inl (wtN tt w (q9 + 1)))), (fa, .inl (E 0, 18, .inl (flN tt fl (q9 + 1))))] H locs := by
          have e3_1 : (.int (nI (cfN tt (6 + 7 * q9) + 1)) : Value) = .int (nI (cfN tt (6 + 7 * (q9 + 1)))) := by exact congrArg (fun z => Value.int (nI z)) (cf7_f hf9)
          rw [e3_1] at hw
          have e3_2 : (.int (nI (cwN tt (6 + 7 * q9))) : Value) = .int (nI (cwN tt (6 + 7 * (q9 + 1)))) := by exact congrArg (fun z => Value.int (nI z)) (cw7_f hf9)
          rw [e3_2] at hw
          have e5 : (wtN tt w q9) = (wtN tt w (q9 + 1)) := by exact wt_f hf9
          rw [e5] at hw
          have e6 : (rtP (flN tt fl q9) tt (6 + 7 * q9 + 1) (cfN tt (6 + 7 * q9)) 3) = (flN tt fl (q9 + 1)) := by exact fl_f hf9
          rw [e6] at hw
          exact hw
        have hl := lv_conv hl 0 rfl (v' := (.int (nI (6 + 7 * (q9 + 1))))) (by exact congrArg (fun z => Value.int (nI z)) (show 6 + 7 * q9 + 7 = 6 + 7 * (q9 + 1) by omega))
        have hl : lv_has ls 4 [(3, .int (nI (6 + 7 * (q9 + 1)))), (0, .ref sc), (1, .ref h), (2, .ref pl)] := hl
        exact ih (q9 + 1) (by omega)   _ _ _ hw (lv_sub hl [1, 2, 3, 0] rfl)
      · skip
        have n_94 : (tt (6 + 7 * q9)) = 119 := nf_neF rfl rfl (by omega) (by omega) c_94
        refine lv_aload_n hx hb dX2_readInto_97 rfl (lv_at hl 2 rfl) ?_
        refine g_getN (TT := TX1) hc hw inX2_readInto_X1 3 2 7 rfl rfl (by decide) rfl rfl dX2_readInto_98 ?_
        refine lv_bipush (v := 6) hx hb dX2_readInto_101 (by decide) ?_
        refine lv_icmp_ge (tgt := 134) hx hb dX2_readInto_103 (by decide) (fun c_103 => absurd c_103 (nI_ge (show cwN tt (6 + 7 * q9) < 6 by omega) (by decide))) (fun c_103 => ?_)
        refine lv_aload_n hx hb dX2_readInto_106 rfl (lv_at hl 0 rfl) ?_
        refine lv_iload_n hx hb dX2_readInto_107 rfl (lv_at hl 3 rfl) ?_
        refine lv_iconst (v := 1) hx hb dX2_readInto_108 (by decide) ?_
        refine lv_iadd hx hb dX2_readInto_109 ?_
        refine W.eq (congrArg (fun z => F0 m 110 ls (.int z :: [.ref sc])) (show ((nI (6 + 7 * q9)) + 1 : Int32) = nI (6 + 7 * q9 + 1) from (n_add rfl rfl))) ?_
        refine lv_aload_n hx hb dX2_readInto_110 rfl (lv_at hl 1 rfl) ?_
        refine g_getN (TT := TX4) hc hw inX2_readInto_X4 2 2 21 rfl rfl (by decide) rfl rfl dX2_readInto_111 ?_
        refine lv_aload_n hx hb dX2_readInto_114 rfl (lv_at hl 2 rfl) ?_
        refine g_getN (TT := TX1) hc hw inX2_readInto_X1 3 2 7 rfl rfl (by decide) rfl rfl dX2_readInto_115 ?_
        refine g_cV (As := [.int (nI (6 + 7 * q9 + 1)), .ref hq, .int (nI (cwN tt (6 + 7 * q9)))]) (n := 3) (rest := []) (wc := [(sc, .inr (2, [.ref tx, .int (nI len)])), (tx, .inl (E 2, 120, .inl (txF tt))), (hq, .inl (E 0, 18, .inl (wtN tt w q9)))]) (w1 := [(sc, .inr (2, [.ref tx, .int (nI len)])), (tx, .inl (E 2, 120, .inl (txF tt))), (hq, .inl (E 0, 18, .inl (rtP (wtN tt w q9) tt (6 + 7 * q9 + 1) (cwN tt (6 + 7 * q9)) 3)))]) (bytes := cX2_readTriple) (maxL := 6) (ret := none) hc hw hl.1 (m_X2_readTriple (l := l) (D := D) (E := E) (T := T) sc tx (6 + 7 * q9 + 1) hq (cwN tt (6 + 7 * q9)) (.int (nI len)) tt (wtN tt w q9) (by omega) (by omega) (by first | assumption | omega | decide)) gX2_readInto_X2_readTriple rfl (by decide +kernel) (by rw [hR]; exact ⟨Nat.le_of_ble_eq_true rfl, Nat.le_of_ble_eq_true rfl⟩) [0, 1, 5] 0 2 rfl rfl (by decide) rfl [sc, tx, hq] rfl rfl rfl rfl (Nat.le_of_ble_eq_true rfl) dX2_readInto_118 ⟨Nat.zero_le _, Nat.zero_le _⟩ (fun H locs hw => ?_)
        have hw : g_W D A s [(sc, .inr (2, [.ref tx, .int (nI len)])), (tx, .inl (E 2, 120, .inl (txF tt))), (h, .inr (4, [v0, .ref ht, .ref hq, v3, v4, v5, v6, v7, v8, v9, v10])), (pl, .inr (1, [.ref fa, .int (nI (cfN tt (6 + 7 * q9))), .int (nI (cwN tt (6 + 7 * q9))), u3, u4, u5, u6, u7, u8, u9])), (ht, .inl (E 0, 4, .inl (seF tt))), (hq, .inl (E 0, 18, .inl (rtP (wtN tt w q9) tt (6 + 7 * q9 + 1) (cwN tt (6 + 7 * q9)) 3))), (fa, .inl (E 0, 18, .inl (flN tt fl q9)))] H locs := hw
        refine lv_aload_n hx hb dX2_readInto_121 rfl (lv_at hl 2 rfl) ?_
        refine lv_dup hx hb dX2_readInto_122 rfl ?_
        refine g_getN (TT := TX1) hc hw inX2_readInto_X1 3 2 7 rfl rfl (by decide) rfl rfl dX2_readInto_123 ?_
        refine lv_iconst (v := 1) hx hb dX2_readInto_126 (by decide) ?_
        refine lv_iadd hx hb dX2_readInto_127 ?_
        refine W.eq (congrArg (fun z => F0 m 128 ls (.int z :: [.ref pl])) (show ((nI (cwN tt (6 + 7 * q9))) + 1 : Int32) = nI (cwN tt (6 + 7 * q9) + 1) from (n_add rfl rfl))) ?_
        refine g_putN (TT := TX1) hc hw inX2_readInto_X1 tyX1 tyX1_ok nmX1 3 2 7 rfl rfl (by decide) rfl rfl rfl rfl (Nat.le_of_ble_eq_true rfl) dX2_readInto_128 (fun H locs hw => ?_)
        have hw : g_W D A s [(sc, .inr (2, [.ref tx, .int (nI len)])), (tx, .inl (E 2, 120, .inl (txF tt))), (h, .inr (4, [v0, .ref ht, .ref hq, v3, v4, v5, v6, v7, v8, v9, v10])), (pl, .inr (1, [.ref fa, .int (nI (cfN tt (6 + 7 * q9))), .int (nI (cwN tt (6 + 7 * q9) + 1)), u3, u4, u5, u6, u7, u8, u9])), (ht, .inl (E 0, 4, .inl (seF tt))), (hq, .inl (E 0, 18, .inl (rtP (wtN tt w q9) tt (6 + 7 * q9 + 1) (cwN tt (6 + 7 * q9)) 3))), (fa, .inl (E 0, 18, .inl (flN tt fl q9)))] H locs := hw
        refine lv_goto (tgt := 179) hx hb dX2_readInto_131 (by decide) ?_
        refine lv_iinc (v := nI ((6 + 7 * q9) + 7)) (lv' := [(3, .int (nI ((6 + 7 * q9) + 7))), (0, .ref sc), (1, .ref h), (2, .ref pl)]) hx hb dX2_readInto_179 hl (k := 3) rfl (n_inc7 rfl) (by decide) rfl (fun ls hl => ?_)
        refine lv_goto (tgt := 66) hx hb dX2_readInto_182 (by decide) ?_
        have hw : g_W D A s [(sc, .inr (2, [.ref tx, .int (nI len)])), (tx, .inl (E 2, 120, .inl (txF tt))), (h, .inr (4, [v0, .ref ht, .ref hq, v3, v4, v5, v6, v7, v8, v9, v10])), (pl, .inr (1, [.ref fa, .int (nI (cfN tt (6 + 7 * (q9 + 1)))), .int (nI (cwN tt (6 + 7 * (q9 + 1)))), u3, u4, u5, u6, u7, u8, u9])), (ht, .inl (E 0, 4, .inl (seF tt))), (hq, .inl (E 0, 18, .inl (wtN tt w (q9 + 1)))), (fa, .inl (E 0, 18, .inl (flN tt fl (q9 + 1))))] H locs := by
          have e3_1 : (.int (nI (cfN tt (6 + 7 * q9))) : Value) = .int (nI (cfN tt (6 + 7 * (q9 + 1)))) := by exact congrArg (fun z => Value.int (nI z)) (cf7_w n_94)
          rw [e3_1] at hw
          have e3_2 : (.int (nI (cwN tt (6 + 7 * q9) + 1)) : Value) = .int (nI (cwN tt (6 + 7 * (q9 + 1)))) := by exact congrArg (fun z => Value.int (nI z)) (cw7_w n_94)
          rw [e3_2] at hw
          have e5 : (rtP (wtN tt w q9) tt (6 + 7 * q9 + 1) (cwN tt (6 + 7 * q9)) 3) = (wtN tt w (q9 + 1)) := by exact wt_w n_94
          rw [e5] at hw
          have e6 : (flN tt fl q9) = (flN tt fl (q9 + 1)) := by exact fl_w n_94
          rw [e6] at hw
          exact hw
        have hl := lv_conv hl 0 rfl (v' := (.int (nI (6 + 7 * (q9 + 1))))) (by exact congrArg (fun z => Value.int (nI z)) (show 6 + 7 * q9 + 7 = 6 + 7 * (q9 + 1) by omega))
        have hl : lv_has ls 4 [(3, .int (nI (6 + 7 * (q9 + 1)))), (0, .ref sc), (1, .ref h), (2, .ref pl)] := hl
        exact ih (q9 + 1) (by omega)   _ _ _ hw (lv_sub hl [1, 2, 3, 0] rfl)
  have hw : g_W D A s [(sc, .inr (2, [.ref tx, .int (nI len)])), (tx, .inl (E 2, 120, .inl (txF tt))), (h, .inr (4, [v0, .ref ht, .ref hq, v3, v4, v5, v6, v7, v8, v9, v10])), (pl, .inr (1, [.ref fa, .int (nI (cfN tt (6 + 7 * 0))), .int (nI (cwN tt (6 + 7 * 0))), u3, u4, u5, u6, u7, u8, u9])), (ht, .inl (E 0, 4, .inl (seF tt))), (hq, .inl (E 0, 18, .inl (wtN tt w 0))), (fa, .inl (E 0, 18, .inl (flN tt fl 0)))] H locs := by have hw := g_reI (q0 := 4) (g := seF tt) hw rfl (se_4 _ tt); have e1 : nI (cfN tt (6 + 7 * 0)) = 0 := (by rw [Nat.mul_zero, cf_6]; rfl); have e2 : nI (cwN tt (6 + 7 * 0)) = 0 := (by rw [Nat.mul_zero, cw_6]; rfl); rw [e1, e2]; exact hw
  have hl := lv_conv hl 0 rfl (v' := (.int (nI (6 + 7 * 0)))) (by rfl)
  have hl : lv_has ls 4 [(3, .int (nI (6 + 7 * 0))), (0, .ref sc), (1, .ref h), (2, .ref pl)] := hl
  exact J66 n 0 (by omega)   _ _ _ hw (lv_sub hl [1, 2, 3, 0] rfl)
end P17
