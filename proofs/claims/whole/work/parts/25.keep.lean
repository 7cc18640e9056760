theorem img_f {M : MM} {sp dr : Nat} (L : LAY M sp dr) {j : Nat} (hj : j < 2) : kd (19 + 2 * j) = 0 ∧ kd (20 + 2 * j) = 8 ∧ ln (20 + 2 * j) = 12 ∧ gR M 18 j = some (19 + 2 * j) ∧ gR M (19 + 2 * j) 0 = some (20 + 2 * j) := by
  rcases (show j = 0 ∨ j = 1 by omega) with rfl | rfl
  · exact ⟨by decide, by decide, by decide, ly_18_0 L, ly_19_0 L⟩
  · exact ⟨by decide, by decide, by decide, ly_18_1 L, ly_21_0 L⟩
theorem nI_mul (a b : Nat) : nI a * nI b = nI (a * b) := by simp [nI]
theorem eq_keep {M : MM} {T : TG} {sp dr : Nat} (I : Inv M T sp dr) (x : Int32) : ∃ r M1 M2, f_X6_keep M 0 x = some (r, M1) ∧ M1.1 = M.1 ∧ f_X7_keep M1 81 x = some (r, M2) ∧ M2.1 = M1.1 ∧ Inv M2 T sp dr := by
  obtain ⟨L, hT, hC, hM, hS, hLs, hX, hP, hI0, hI1, hJ⟩ := id I
  have hN := L.1
  obtain ⟨n, hn, x1, x2, x3⟩ := hX
  obtain ⟨k, hk, p1, p2, p3⟩ := hP
  have hst : sp = 23 ∨ sp = 52 := by rcases L.2.1 with ⟨h, -⟩ | ⟨h, -⟩ <;> omega
  obtain ⟨ks0, ks1, ks2, ks3, ks4, ks5, ks6, ks7, ks8⟩ := tkf hst
  obtain ⟨lt0, lt1, lt2, lt3⟩ := ly_t L sp hst

  rcases i_cases x with hy | ⟨j, hj, rfl⟩
  · exact ⟨-1, M, M, by simp [f_X6_keep, fI_e, aI_l, aZ_l, aR_l, waI_l, waZ_l, fJ_e, fR_e, wfI_e, wfZ_e, wfJ_e, wfR_e, aI_e, aZ_e, aJ_e, aR_e, waI_e, waZ_e, waJ_e, n_sI, n_sJ, n_sR, gI_sI, gI_sJ, gI_sR, gJ_sI, gJ_sJ, gJ_sR, gR_sI, gR_sJ, gR_sR, Option.bind_some, Option.map_some, kdv_0, kdv_1, kdv_2, kdv_3, kdv_4, kdv_5, kdv_6, kdv_7, kdv_8, kdv_9, kdv_10, kdv_11, kdv_12, kdv_13, kdv_14, kdv_15, kdv_16, kdv_17, kdv_18, kdv_19, kdv_20, kdv_21, kdv_22, kdv_23, kdv_24, kdv_25, kdv_26, kdv_27, kdv_28, kdv_29, kdv_30, kdv_31, kdv_32, kdv_33, kdv_34, kdv_35, kdv_36, kdv_37, kdv_38, kdv_39, kdv_40, kdv_41, kdv_42, kdv_43, kdv_44, kdv_45, kdv_46, kdv_47, kdv_48, kdv_49, kdv_50, kdv_51, kdv_52, kdv_53, kdv_54, kdv_55, kdv_56, kdv_57, kdv_58, kdv_59, kdv_60, kdv_61, kdv_62, kdv_63, kdv_64, kdv_65, kdv_66, kdv_67, kdv_68, kdv_69, kdv_70, kdv_71, kdv_72, kdv_73, kdv_74, kdv_75, kdv_76, kdv_77, kdv_78, kdv_79, kdv_80, kdv_81, kdv_82, kdv_83, kdv_84, kdv_85, kdv_86, kdv_87, kdv_88, kdv_89, kdv_90, kdv_91, kdv_92, lnv_2, lnv_4, lnv_5, lnv_6, lnv_7, lnv_8, lnv_9, lnv_10, lnv_11, lnv_12, lnv_13, lnv_14, lnv_15, lnv_17, lnv_18, lnv_20, lnv_22, lnv_24, lnv_25, lnv_53, lnv_54, lnv_82, lnv_83, lnv_84, lnv_85, lnv_86, lnv_87, lnv_88, lnv_89, lnv_90, lnv_91, lnv_92, hN, hy], rfl, by simp [f_X7_keep, fI_e, aI_l, aZ_l, aR_l, waI_l, waZ_l, fJ_e, fR_e, wfI_e, wfZ_e, wfJ_e, wfR_e, aI_e, aZ_e, aJ_e, aR_e, waI_e, waZ_e, waJ_e, n_sI, n_sJ, n_sR, gI_sI, gI_sJ, gI_sR, gJ_sI, gJ_sJ, gJ_sR, gR_sI, gR_sJ, gR_sR, Option.bind_some, Option.map_some, kdv_0, kdv_1, kdv_2, kdv_3, kdv_4, kdv_5, kdv_6, kdv_7, kdv_8, kdv_9, kdv_10, kdv_11, kdv_12, kdv_13, kdv_14, kdv_15, kdv_16, kdv_17, kdv_18, kdv_19, kdv_20, kdv_21, kdv_22, kdv_23, kdv_24, kdv_25, kdv_26, kdv_27, kdv_28, kdv_29, kdv_30, kdv_31, kdv_32, kdv_33, kdv_34, kdv_35, kdv_36, kdv_37, kdv_38, kdv_39, kdv_40, kdv_41, kdv_42, kdv_43, kdv_44, kdv_45, kdv_46, kdv_47, kdv_48, kdv_49, kdv_50, kdv_51, kdv_52, kdv_53, kdv_54, kdv_55, kdv_56, kdv_57, kdv_58, kdv_59, kdv_60, kdv_61, kdv_62, kdv_63, kdv_64, kdv_65, kdv_66, kdv_67, kdv_68, kdv_69, kdv_70, kdv_71, kdv_72, kdv_73, kdv_74, kdv_75, kdv_76, kdv_77, kdv_78, kdv_79, kdv_80, kdv_81, kdv_82, kdv_83, kdv_84, kdv_85, kdv_86, kdv_87, kdv_88, kdv_89, kdv_90, kdv_91, kdv_92, lnv_2, lnv_4, lnv_5, lnv_6, lnv_7, lnv_8, lnv_9, lnv_10, lnv_11, lnv_12, lnv_13, lnv_14, lnv_15, lnv_17, lnv_18, lnv_20, lnv_22, lnv_24, lnv_25, lnv_53, lnv_54, lnv_82, lnv_83, lnv_84, lnv_85, lnv_86, lnv_87, lnv_88, lnv_89, lnv_90, lnv_91, lnv_92, hN, m_in_neg hy], rfl, I⟩
  · have hin := m_in (M := M) (j := j) (a := 0) (b := 1) hj (by decide) (by decide)
    have h0 : ¬ nI j < 0 := nI_pos hj
    by_cases h2 : 2 ≤ j
    · have h3 : ¬ j < 2 := by omega
      have h4 : ¬ j ≤ 1 := by omega
      rw [show nI 0 = (0 : Int32) from rfl, show nI 1 = (1 : Int32) from rfl] at hin
      exact ⟨-1, M, M, by simp [f_X6_keep, fI_e, aI_l, aZ_l, aR_l, waI_l, waZ_l, fJ_e, fR_e, wfI_e, wfZ_e, wfJ_e, wfR_e, aI_e, aZ_e, aJ_e, aR_e, waI_e, waZ_e, waJ_e, n_sI, n_sJ, n_sR, gI_sI, gI_sJ, gI_sR, gJ_sI, gJ_sJ, gJ_sR, gR_sI, gR_sJ, gR_sR, Option.bind_some, Option.map_some, kdv_0, kdv_1, kdv_2, kdv_3, kdv_4, kdv_5, kdv_6, kdv_7, kdv_8, kdv_9, kdv_10, kdv_11, kdv_12, kdv_13, kdv_14, kdv_15, kdv_16, kdv_17, kdv_18, kdv_19, kdv_20, kdv_21, kdv_22, kdv_23, kdv_24, kdv_25, kdv_26, kdv_27, kdv_28, kdv_29, kdv_30, kdv_31, kdv_32, kdv_33, kdv_34, kdv_35, kdv_36, kdv_37, kdv_38, kdv_39, kdv_40, kdv_41, kdv_42, kdv_43, kdv_44, kdv_45, kdv_46, kdv_47, kdv_48, kdv_49, kdv_50, kdv_51, kdv_52, kdv_53, kdv_54, kdv_55, kdv_56, kdv_57, kdv_58, kdv_59, kdv_60, kdv_61, kdv_62, kdv_63, kdv_64, kdv_65, kdv_66, kdv_67, kdv_68, kdv_69, kdv_70, kdv_71, kdv_72, kdv_73, kdv_74, kdv_75, kdv_76, kdv_77, kdv_78, kdv_79, kdv_80, kdv_81, kdv_82, kdv_83, kdv_84, kdv_85, kdv_86, kdv_87, kdv_88, kdv_89, kdv_90, kdv_91, kdv_92, lnv_2, lnv_4, lnv_5, lnv_6, lnv_7, lnv_8, lnv_9, lnv_10, lnv_11, lnv_12, lnv_13, lnv_14, lnv_15, lnv_17, lnv_18, lnv_20, lnv_22, lnv_24, lnv_25, lnv_53, lnv_54, lnv_82, lnv_83, lnv_84, lnv_85, lnv_86, lnv_87, lnv_88, lnv_89, lnv_90, lnv_91, lnv_92, hN, h0, n_lt_l, hj, h3], rfl, by simp [f_X7_keep, fI_e, aI_l, aZ_l, aR_l, waI_l, waZ_l, fJ_e, fR_e, wfI_e, wfZ_e, wfJ_e, wfR_e, aI_e, aZ_e, aJ_e, aR_e, waI_e, waZ_e, waJ_e, n_sI, n_sJ, n_sR, gI_sI, gI_sJ, gI_sR, gJ_sI, gJ_sJ, gJ_sR, gR_sI, gR_sJ, gR_sR, Option.bind_some, Option.map_some, kdv_0, kdv_1, kdv_2, kdv_3, kdv_4, kdv_5, kdv_6, kdv_7, kdv_8, kdv_9, kdv_10, kdv_11, kdv_12, kdv_13, kdv_14, kdv_15, kdv_16, kdv_17, kdv_18, kdv_19, kdv_20, kdv_21, kdv_22, kdv_23, kdv_24, kdv_25, kdv_26, kdv_27, kdv_28, kdv_29, kdv_30, kdv_31, kdv_32, kdv_33, kdv_34, kdv_35, kdv_36, kdv_37, kdv_38, kdv_39, kdv_40, kdv_41, kdv_42, kdv_43, kdv_44, kdv_45, kdv_46, kdv_47, kdv_48, kdv_49, kdv_50, kdv_51, kdv_52, kdv_53, kdv_54, kdv_55, kdv_56, kdv_57, kdv_58, kdv_59, kdv_60, kdv_61, kdv_62, kdv_63, kdv_64, kdv_65, kdv_66, kdv_67, kdv_68, kdv_69, kdv_70, kdv_71, kdv_72, kdv_73, kdv_74, kdv_75, kdv_76, kdv_77, kdv_78, kdv_79, kdv_80, kdv_81, kdv_82, kdv_83, kdv_84, kdv_85, kdv_86, kdv_87, kdv_88, kdv_89, kdv_90, kdv_91, kdv_92, lnv_2, lnv_4, lnv_5, lnv_6, lnv_7, lnv_8, lnv_9, lnv_10, lnv_11, lnv_12, lnv_13, lnv_14, lnv_15, lnv_17, lnv_18, lnv_20, lnv_22, lnv_24, lnv_25, lnv_53, lnv_54, lnv_82, lnv_83, lnv_84, lnv_85, lnv_86, lnv_87, lnv_88, lnv_89, lnv_90, lnv_91, lnv_92, hN, hin, h4], rfl, I⟩
    · have h3 : j < 2 := by omega
      have h4 : j ≤ 1 := by omega
      obtain ⟨f1, f2, f3, f4, f5⟩ := img_f L h3
      have hb := become_ok (M := M) (p := 19 + 2 * j) (q := 16) (k := k) hN (by omega) (by omega) f1 (by decide) (by rw [show 19 + 2 * j + 1 = 20 + 2 * j by omega]; exact f2) (by decide) (by rw [show 19 + 2 * j + 1 = 20 + 2 * j by omega]; exact f3) (by decide) (by omega) (by rw [show 19 + 2 * j + 1 = 20 + 2 * j by omega]; exact f5) (ly_16_0 L) hk p1
      rw [show 19 + 2 * j + 1 = 20 + 2 * j by omega, show 16 + 1 = 17 from rfl] at hb
      have b1 : 19 + 2 * j < 93 := by omega
      have b2 : 20 + 2 * j < 93 := by omega
      generalize hMa : cpG (sI M (19 + 2 * j) 1 (nI k)) (20 + 2 * j) 0 17 0 k = Ma at hb
      have aa : Ag M Ma [19 + 2 * j, 20 + 2 * j] := by
        rw [← hMa]
        exact (Ag.rf.sI (by simp)).tr ((cpG_ag k).mono (by simp))
      generalize hMb : sI Ma (19 + 2 * j) 2 1 = Mb
      have ab : Ag M Mb [19 + 2 * j, 20 + 2 * j] := by rw [← hMb]; exact aa.sI (by simp)
      have nb : Mb.1 = 93 := ab.1.trans hN
      have LB' := L.ag ab
      -- the reference's loop
      have m85 : gI Mb 85 0 = nI k := by rw [ab.2.2.1 85 (by simp; omega)]; exact p2
      have hl : ∀ i, gI (cpG Mb 86 (13 * j) 85 0 i) 85 0 = nI k := fun i => by rw [cpG_o (by decide)]; exact m85
      have hc : f_X6_keep M 0 (nI j) = some (nI k, Mb) := by
        have g1 : gI Ma 16 1 = nI k := by rw [aa.2.2.1 16 (by simp; omega)]; exact p1
        have na : Ma.1 = 93 := aa.1.trans hN
        have g2 : ∀ p i, gR Ma p i = gR M p i := aa.2.1
        have g3 : ¬ (16 = 19 + 2 * j ∧ 1 = 2) := by omega
        have g1b : gI Mb 16 1 = nI k := by rw [ab.2.2.1 16 (by simp; omega)]; exact p1
        have g2b : ∀ p i, gR Mb p i = gR M p i := ab.2.1
        simp [f_X6_keep, fI_e, aI_l, aZ_l, aR_l, waI_l, waZ_l, fJ_e, fR_e, wfI_e, wfZ_e, wfJ_e, wfR_e, aI_e, aZ_e, aJ_e, aR_e, waI_e, waZ_e, waJ_e, n_sI, n_sJ, n_sR, gI_sI, gI_sJ, gI_sR, gJ_sI, gJ_sJ, gJ_sR, gR_sI, gR_sJ, gR_sR, Option.bind_some, Option.map_some, kdv_0, kdv_1, kdv_2, kdv_3, kdv_4, kdv_5, kdv_6, kdv_7, kdv_8, kdv_9, kdv_10, kdv_11, kdv_12, kdv_13, kdv_14, kdv_15, kdv_16, kdv_17, kdv_18, kdv_19, kdv_20, kdv_21, kdv_22, kdv_23, kdv_24, kdv_25, kdv_26, kdv_27, kdv_28, kdv_29, kdv_30, kdv_31, kdv_32, kdv_33, kdv_34, kdv_35, kdv_36, kdv_37, kdv_38, kdv_39, kdv_40, kdv_41, kdv_42, kdv_43, kdv_44, kdv_45, kdv_46, kdv_47, kdv_48, kdv_49, kdv_50, kdv_51, kdv_52, kdv_53, kdv_54, kdv_55, kdv_56, kdv_57, kdv_58, kdv_59, kdv_60, kdv_61, kdv_62, kdv_63, kdv_64, kdv_65, kdv_66, kdv_67, kdv_68, kdv_69, kdv_70, kdv_71, kdv_72, kdv_73, kdv_74, kdv_75, kdv_76, kdv_77, kdv_78, kdv_79, kdv_80, kdv_81, kdv_82, kdv_83, kdv_84, kdv_85, kdv_86, kdv_87, kdv_88, kdv_89, kdv_90, kdv_91, kdv_92, lnv_2, lnv_4, lnv_5, lnv_6, lnv_7, lnv_8, lnv_9, lnv_10, lnv_11, lnv_12, lnv_13, lnv_14, lnv_15, lnv_17, lnv_18, lnv_20, lnv_22, lnv_24, lnv_25, lnv_53, lnv_54, lnv_82, lnv_83, lnv_84, lnv_85, lnv_86, lnv_87, lnv_88, lnv_89, lnv_90, lnv_91, lnv_92, hN, (ly_0_0 L), (ly_0_1 L), (ly_0_2 L), (ly_0_3 L), (ly_0_4 L), (ly_0_5 L), (ly_1_0 L), (ly_3_0 L), (ly_3_1 L), (ly_3_2 L), (ly_3_3 L), (ly_3_4 L), (ly_3_5 L), (ly_3_6 L), (ly_3_7 L), (ly_3_8 L), (ly_3_10 L), (ly_3_11 L), (ly_3_12 L), (ly_16_0 L), (ly_18_0 L), (ly_18_1 L), (ly_19_0 L), (ly_21_0 L), (ly_81_1 L), (ly_81_3 L), (ly_81_4 L), (ly_81_5 L), (ly_81_6 L), (ly_81_7 L), (ly_81_8 L), (ly_81_9 L), (ly_81_10 L), (ly_81_11 L), (ly_81_17 L), h0, n_lt_l, hj, h3, f1, f2, f3, f4, f5, hb, b1, b2, na, g1, g2, g3, hMb, nb, g1b, g2b]
      have hm : f_X7_keep Mb 81 (nI j) = some (nI k, sI (cpG Mb 86 (13 * j) 85 0 13) 87 j 1) := by
        have hin2 := m_in (M := Mb) (j := j) (a := 0) (b := 1) hj (by decide) (by decide)
        rw [show nI 0 = (0 : Int32) from rfl, show nI 1 = (1 : Int32) from rfl] at hin2
        simp [f_X7_keep, fI_e, aI_l, aZ_l, aR_l, waI_l, waZ_l, fJ_e, fR_e, wfI_e, wfZ_e, wfJ_e, wfR_e, aI_e, aZ_e, aJ_e, aR_e, waI_e, waZ_e, waJ_e, n_sI, n_sJ, n_sR, gI_sI, gI_sJ, gI_sR, gJ_sI, gJ_sJ, gJ_sR, gR_sI, gR_sJ, gR_sR, Option.bind_some, Option.map_some, kdv_0, kdv_1, kdv_2, kdv_3, kdv_4, kdv_5, kdv_6, kdv_7, kdv_8, kdv_9, kdv_10, kdv_11, kdv_12, kdv_13, kdv_14, kdv_15, kdv_16, kdv_17, kdv_18, kdv_19, kdv_20, kdv_21, kdv_22, kdv_23, kdv_24, kdv_25, kdv_26, kdv_27, kdv_28, kdv_29, kdv_30, kdv_31, kdv_32, kdv_33, kdv_34, kdv_35, kdv_36, kdv_37, kdv_38, kdv_39, kdv_40, kdv_41, kdv_42, kdv_43, kdv_44, kdv_45, kdv_46, kdv_47, kdv_48, kdv_49, kdv_50, kdv_51, kdv_52, kdv_53, kdv_54, kdv_55, kdv_56, kdv_57, kdv_58, kdv_59, kdv_60, kdv_61, kdv_62, kdv_63, kdv_64, kdv_65, kdv_66, kdv_67, kdv_68, kdv_69, kdv_70, kdv_71, kdv_72, kdv_73, kdv_74, kdv_75, kdv_76, kdv_77, kdv_78, kdv_79, kdv_80, kdv_81, kdv_82, kdv_83, kdv_84, kdv_85, kdv_86, kdv_87, kdv_88, kdv_89, kdv_90, kdv_91, kdv_92, lnv_2, lnv_4, lnv_5, lnv_6, lnv_7, lnv_8, lnv_9, lnv_10, lnv_11, lnv_12, lnv_13, lnv_14, lnv_15, lnv_17, lnv_18, lnv_20, lnv_22, lnv_24, lnv_25, lnv_53, lnv_54, lnv_82, lnv_83, lnv_84, lnv_85, lnv_86, lnv_87, lnv_88, lnv_89, lnv_90, lnv_91, lnv_92, nb, hin2, h4]
        refine lp_run (st := fun i => (nI i, cpG Mb 86 (13 * j) 85 0 i)) 13 (fun i hi => ?_) ?_ FU (show 13 < 4000 by omega)
        · have e1 : nI i + 1 = nI (i + 1) := nI_1 i
          have e2 : (13 : Int32) * nI j + nI i = nI (13 * j + i) := by
            rw [← nI_add, ← nI_mul]
            rfl
          have c1 : ¬ 13 ≤ i := by omega
          have c2 : i < 2147483648 := by omega
          have c3 : 13 * j + i < 26 := by omega
          have g2 : gI (cpG Mb 86 (13 * j) 85 0 i) 85 i = gI Mb 85 i := cpG_o (by decide)
          simp [z_X7_keep_13, fI_e, aI_l, aZ_l, aR_l, waI_l, waZ_l, fJ_e, fR_e, wfI_e, wfZ_e, wfJ_e, wfR_e, aI_e, aZ_e, aJ_e, aR_e, waI_e, waZ_e, waJ_e, n_sI, n_sJ, n_sR, gI_sI, gI_sJ, gI_sR, gJ_sI, gJ_sJ, gJ_sR, gR_sI, gR_sJ, gR_sR, Option.bind_some, Option.map_some, kdv_0, kdv_1, kdv_2, kdv_3, kdv_4, kdv_5, kdv_6, kdv_7, kdv_8, kdv_9, kdv_10, kdv_11, kdv_12, kdv_13, kdv_14, kdv_15, kdv_16, kdv_17, kdv_18, kdv_19, kdv_20, kdv_21, kdv_22, kdv_23, kdv_24, kdv_25, kdv_26, kdv_27, kdv_28, kdv_29, kdv_30, kdv_31, kdv_32, kdv_33, kdv_34, kdv_35, kdv_36, kdv_37, kdv_38, kdv_39, kdv_40, kdv_41, kdv_42, kdv_43, kdv_44, kdv_45, kdv_46, kdv_47, kdv_48, kdv_49, kdv_50, kdv_51, kdv_52, kdv_53, kdv_54, kdv_55, kdv_56, kdv_57, kdv_58, kdv_59, kdv_60, kdv_61, kdv_62, kdv_63, kdv_64, kdv_65, kdv_66, kdv_67, kdv_68, kdv_69, kdv_70, kdv_71, kdv_72, kdv_73, kdv_74, kdv_75, kdv_76, kdv_77, kdv_78, kdv_79, kdv_80, kdv_81, kdv_82, kdv_83, kdv_84, kdv_85, kdv_86, kdv_87, kdv_88, kdv_89, kdv_90, kdv_91, kdv_92, lnv_2, lnv_4, lnv_5, lnv_6, lnv_7, lnv_8, lnv_9, lnv_10, lnv_11, lnv_12, lnv_13, lnv_14, lnv_15, lnv_17, lnv_18, lnv_20, lnv_22, lnv_24, lnv_25, lnv_53, lnv_54, lnv_82, lnv_83, lnv_84, lnv_85, lnv_86, lnv_87, lnv_88, lnv_89, lnv_90, lnv_91, lnv_92, cpG_n, cpG_R, nb, (ly_81_5 LB'), (ly_81_6 LB'), l_le_n, c1, c2, c3, hi, e1, e2, g2, cpG]
        · have c4 : (13 : Int32) ≤ nI 13 := by decide
          have g2 : gI (cpG Mb 86 (13 * j) 85 0 13) 85 0 = nI k := hl 13
          simp [z_X7_keep_13, fI_e, aI_l, aZ_l, aR_l, waI_l, waZ_l, fJ_e, fR_e, wfI_e, wfZ_e, wfJ_e, wfR_e, aI_e, aZ_e, aJ_e, aR_e, waI_e, waZ_e, waJ_e, n_sI, n_sJ, n_sR, gI_sI, gI_sJ, gI_sR, gJ_sI, gJ_sJ, gJ_sR, gR_sI, gR_sJ, gR_sR, Option.bind_some, Option.map_some, kdv_0, kdv_1, kdv_2, kdv_3, kdv_4, kdv_5, kdv_6, kdv_7, kdv_8, kdv_9, kdv_10, kdv_11, kdv_12, kdv_13, kdv_14, kdv_15, kdv_16, kdv_17, kdv_18, kdv_19, kdv_20, kdv_21, kdv_22, kdv_23, kdv_24, kdv_25, kdv_26, kdv_27, kdv_28, kdv_29, kdv_30, kdv_31, kdv_32, kdv_33, kdv_34, kdv_35, kdv_36, kdv_37, kdv_38, kdv_39, kdv_40, kdv_41, kdv_42, kdv_43, kdv_44, kdv_45, kdv_46, kdv_47, kdv_48, kdv_49, kdv_50, kdv_51, kdv_52, kdv_53, kdv_54, kdv_55, kdv_56, kdv_57, kdv_58, kdv_59, kdv_60, kdv_61, kdv_62, kdv_63, kdv_64, kdv_65, kdv_66, kdv_67, kdv_68, kdv_69, kdv_70, kdv_71, kdv_72, kdv_73, kdv_74, kdv_75, kdv_76, kdv_77, kdv_78, kdv_79, kdv_80, kdv_81, kdv_82, kdv_83, kdv_84, kdv_85, kdv_86, kdv_87, kdv_88, kdv_89, kdv_90, kdv_91, kdv_92, lnv_2, lnv_4, lnv_5, lnv_6, lnv_7, lnv_8, lnv_9, lnv_10, lnv_11, lnv_12, lnv_13, lnv_14, lnv_15, lnv_17, lnv_18, lnv_20, lnv_22, lnv_24, lnv_25, lnv_53, lnv_54, lnv_82, lnv_83, lnv_84, lnv_85, lnv_86, lnv_87, lnv_88, lnv_89, lnv_90, lnv_91, lnv_92, cpG_n, cpG_R, nb, (ly_81_5 LB'), (ly_81_7 LB'), c4, h3, g2]
      refine ⟨nI k, Mb, _, hc, by rw [nb, hN], hm, cpG_n, ?_⟩
      have a2 : Ag M (sI (cpG Mb 86 (13 * j) 85 0 13) 87 j 1) [19 + 2 * j, 20 + 2 * j, 86, 87] := ((ab.mono (by simp)).tr ((cpG_ag 13).mono (by simp))).sI (by simp)
      have hS : ∀ p ∈ [19 + 2 * j, 20 + 2 * j, 86, 87], p ∈ LOOSE := by
        rcases (show j = 0 ∨ j = 1 by omega) with rfl | rfl <;> decide
      have hP' : PST M T := ⟨k, hk, p1, p2, p3⟩
      -- the image that was kept
      have hnew : IMG (sI (cpG Mb 86 (13 * j) 85 0 13) 87 j 1) T j := by
        have q1 : gI (sI (cpG Mb 86 (13 * j) 85 0 13) 87 j 1) (19 + 2 * j) 2 = 1 := by
          rw [gI_sI, if_neg (by omega), cpG_o (by omega), ← hMb, gI_sI, if_pos ⟨rfl, rfl⟩]
        have q2 : gI (sI (cpG Mb 86 (13 * j) 85 0 13) 87 j 1) 87 j = 1 := by rw [gI_sI, if_pos ⟨rfl, rfl⟩]
        have q3 : gI (sI (cpG Mb 86 (13 * j) 85 0 13) 87 j 1) (19 + 2 * j) 1 = nI k := by
          rw [gI_sI, if_neg (by omega), cpG_o (by omega), ← hMb, gI_sI, if_neg (by omega), ← hMa, cpG_o (by omega), gI_sI, if_pos ⟨rfl, rfl⟩]
        have q4 : gI (sI (cpG Mb 86 (13 * j) 85 0 13) 87 j 1) 86 (13 * j) = nI k := by
          rw [gI_sI, if_neg (by omega), cpG_d, if_pos (by omega), Nat.sub_self]
          exact m85
        refine ⟨by rw [q1, q2], Or.inr ⟨q2, k, hk, q3, q4, fun i hi => ?_⟩⟩
        have q5 : gI (sI (cpG Mb 86 (13 * j) 85 0 13) 87 j 1) 86 (13 * j + 1 + i) = gI M 85 (1 + i) := by
          rw [gI_sI, if_neg (by omega), cpG_d, if_pos (by omega), ab.2.2.1 85 (by simp; omega)]
          congr 1
          omega
        have q6 : gI (sI (cpG Mb 86 (13 * j) 85 0 13) 87 j 1) (20 + 2 * j) i = gI M 17 i := by
          rw [gI_sI, if_neg (by omega), cpG_o (by omega), ← hMb, gI_sI, if_neg (by omega), ← hMa, cpG_d, if_pos (by omega), gI_sI, if_neg (by omega)]
          congr 1
          omega
        rw [q5, q6]
        exact p3 i hi
      -- the other image
      have hoth : ∀ j', j' < 2 → j' ≠ j → IMG M T j' → IMG (sI (cpG Mb 86 (13 * j) 85 0 13) 87 j 1) T j' := by
        intro j' hj' hne h
        have r1 : ∀ i, gI (sI (cpG Mb 86 (13 * j) 85 0 13) 87 j 1) (19 + 2 * j') i = gI M (19 + 2 * j') i := fun i => a2.2.2.1 _ (by simp; omega) i
        have r2 : ∀ i, gI (sI (cpG Mb 86 (13 * j) 85 0 13) 87 j 1) (20 + 2 * j') i = gI M (20 + 2 * j') i := fun i => a2.2.2.1 _ (by simp; omega) i
        have r3 : gI (sI (cpG Mb 86 (13 * j) 85 0 13) 87 j 1) 87 j' = gI M 87 j' := by
          rw [gI_sI, if_neg (by omega), cpG_o (by decide), ab.2.2.1 87 (by simp; omega)]
        have r4 : ∀ i, i < 13 → gI (sI (cpG Mb 86 (13 * j) 85 0 13) 87 j 1) 86 (13 * j' + i) = gI M 86 (13 * j' + i) := fun i hi => by
          rw [gI_sI, if_neg (by omega), cpG_d, if_neg (by omega), ab.2.2.1 86 (by simp; omega)]
        refine ⟨by rw [r1, r3]; exact h.1, h.2.imp (fun q => by rw [r3]; exact q) fun q => ⟨by rw [r3]; exact q.1, ?_⟩⟩
        obtain ⟨k', v1, v2, v3, v4⟩ := q.2
        refine ⟨k', v1, by rw [r1]; exact v2, by have := r4 0 (by omega); rw [Nat.add_zero] at this; rw [this]; exact v3, fun i hi => ?_⟩
        rw [r2, show 13 * j' + 1 + i = 13 * j' + (1 + i) by omega, r4 _ (by omega)]
        have := v4 i hi
        rwa [show 13 * j' + 1 + i = 13 * j' + (1 + i) by omega] at this
      refine I.ag a2 hS (by rw [gI_sI, if_neg (by omega), cpG_o (by decide), ab.2.2.1 81 (by simp; omega)]) ((show TXT M from ⟨n, hn, x1, x2, x3⟩).ag a2 (by rw [gI_sI, if_neg (by omega), cpG_o (by decide), ab.2.2.1 81 (by simp; omega)]) (by simp; omega)) (hP'.ag a2 (by simp; omega)) ?_ ?_ ?_
      · rcases (show j = 0 ∨ j = 1 by omega) with h | h
        · rw [h] at hnew ⊢; exact hnew
        · exact hoth 0 (by omega) (by omega) hI0
      · rcases (show j = 0 ∨ j = 1 by omega) with h | h
        · exact hoth 1 (by omega) (by omega) hI1
        · rw [h] at hnew ⊢; exact hnew
      · rw [a2.2.2.2 0 (by simp; omega), a2.2.2.2 81 (by simp; omega)]
        exact hJ
