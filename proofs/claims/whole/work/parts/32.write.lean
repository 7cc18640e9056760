theorem LB_pre {T : TG} {i : Nat} (hi : i ≤ 1000) : ∃ R, Lt T = LB T i ++ R ∧ (∀ x ∈ LB T i, x < i) ∧ ∀ x ∈ R, i ≤ x := by
  refine ⟨((List.range (1000 - i)).map (i + ·)).filter (isL T), ?_, fun x hx => ?_, fun x hx => ?_⟩
  · rw [Lt_eq, show 1000 = i + (1000 - i) by omega, List.range_add, List.filter_append]
    simp [LB]
  · unfold LB at hx
    have := (List.mem_filter.mp hx).1
    exact List.mem_range.mp this
  · have := (List.mem_filter.mp hx).1
    obtain ⟨y, -, rfl⟩ := List.mem_map.mp this
    omega
theorem LB_at {T : TG} {j : Nat} (hj : j < (Lt T).length) : (LB T (Lt T)[j]).length = j := by
  have hl := (Lt_at hj).1
  obtain ⟨R, e, h1, h2⟩ := LB_pre (T := T) (i := (Lt T)[j]) (by omega)
  generalize hlv : (Lt T)[j] = l at e h1 h2 ⊢
  generalize hA : LB T l = A at e h1 ⊢
  rcases Nat.lt_trichotomy A.length j with q | q | q
  · have hq : A.length < (Lt T).length := by omega
    have hm : (Lt T)[A.length] ∈ R := by
      have hR : 0 < R.length := by
        have := congrArg List.length e
        rw [List.length_append] at this
        omega
      have : (Lt T)[A.length]? = R[0]? := by
        rw [e, List.getElem?_append_right (Nat.le_refl _), Nat.sub_self]
      rw [List.getElem?_eq_getElem hq, List.getElem?_eq_getElem hR] at this
      rw [Option.some.inj this]
      exact List.getElem_mem hR
    have h3 := h2 _ hm
    have h4 := Lt_lt hj q
    omega
  · exact q
  · have hm : l ∈ A := by
      have : (Lt T)[j]? = A[j]? := by rw [e, List.getElem?_append_left q]
      rw [List.getElem?_eq_getElem hj, List.getElem?_eq_getElem q, hlv] at this
      rw [Option.some.inj this]
      exact List.getElem_mem q
    have := h1 l hm
    omega
theorem LB_le {T : TG} {i : Nat} (hi : i ≤ 1000) : (LB T i).length ≤ (Lt T).length := by
  obtain ⟨R, e, -, -⟩ := LB_pre (T := T) hi
  rw [e, List.length_append]
  omega
/-- the index of a letter -/
theorem LB_ix {T : TG} {l : Nat} (hl : l < 1000) (h : isL T l = true) : ∃ (hj : (LB T l).length < (Lt T).length), (Lt T)[(LB T l).length] = l := by
  obtain ⟨j, hj, e⟩ := List.getElem_of_mem (Lt_mem.mpr ⟨hl, h⟩)
  have h2 := LB_at hj
  rw [e] at h2
  exact ⟨by omega, by simp only [h2]; exact e⟩
/-! write -/
theorem w_end {M : MM} {T : TG} {sp dr k l : Nat} (I : Inv M T sp dr) (hk : k ≤ 12) (p1 : gI M 16 1 = nI k) (p2 : gI M 85 0 = nI k) (p3 : RWS M T 17 85 1 k) (hl : l < 1000) (hLl : isL T l = true) : ∃ r M1 M2, j_X6_write_54 M 0 (nI l) = some (r, M1) ∧ M1.1 = M.1 ∧ j_X7_write_70 M1 81 (nI l) = some (r, M2) ∧ M2.1 = M1.1 ∧ Inv M2 T sp dr ∧ (∀ p i, ¬ p = 16 → ¬ p = 17 → gI M1 p i = gI M p i) ∧ (∀ p i, gR M1 p i = gR M p i) := by
  obtain ⟨L, hT, hC, hM, hS, hLs, hX, hP, hI0, hI1, hJ⟩ := id I
  have hN := L.1
  by_cases h12 : k = 12
  · subst h12
    have c1 : ¬ nI 12 < 12 := by decide
    have c2 : nI 12 = (12 : Int32) := rfl
    exact ⟨-3, M, M, by simp [j_X6_write_54, fI_e, aI_l, aZ_l, aR_l, waI_l, waZ_l, fJ_e, fR_e, wfI_e, wfZ_e, wfJ_e, wfR_e, aI_e, aZ_e, aJ_e, aR_e, waI_e, waZ_e, waJ_e, n_sI, n_sJ, n_sR, gI_sI, gI_sJ, gI_sR, gJ_sI, gJ_sJ, gJ_sR, gR_sI, gR_sJ, gR_sR, Option.bind_some, Option.map_some, kdv_0, kdv_1, kdv_2, kdv_3, kdv_4, kdv_5, kdv_6, kdv_7, kdv_8, kdv_9, kdv_10, kdv_11, kdv_12, kdv_13, kdv_14, kdv_15, kdv_16, kdv_17, kdv_18, kdv_19, kdv_20, kdv_21, kdv_22, kdv_23, kdv_24, kdv_25, kdv_26, kdv_27, kdv_28, kdv_29, kdv_30, kdv_31, kdv_32, kdv_33, kdv_34, kdv_35, kdv_36, kdv_37, kdv_38, kdv_39, kdv_40, kdv_41, kdv_42, kdv_43, kdv_44, kdv_45, kdv_46, kdv_47, kdv_48, kdv_49, kdv_50, kdv_51, kdv_52, kdv_53, kdv_54, kdv_55, kdv_56, kdv_57, kdv_58, kdv_59, kdv_60, kdv_61, kdv_62, kdv_63, kdv_64, kdv_65, kdv_66, kdv_67, kdv_68, kdv_69, kdv_70, kdv_71, kdv_72, kdv_73, kdv_74, kdv_75, kdv_76, kdv_77, kdv_78, kdv_79, kdv_80, kdv_81, kdv_82, kdv_83, kdv_84, kdv_85, kdv_86, kdv_87, kdv_88, kdv_89, kdv_90, kdv_91, kdv_92, lnv_2, lnv_4, lnv_5, lnv_6, lnv_7, lnv_8, lnv_9, lnv_10, lnv_11, lnv_12, lnv_13, lnv_14, lnv_15, lnv_17, lnv_18, lnv_20, lnv_22, lnv_24, lnv_25, lnv_53, lnv_54, lnv_82, lnv_83, lnv_84, lnv_85, lnv_86, lnv_87, lnv_88, lnv_89, lnv_90, lnv_91, lnv_92, hN, (ly_0_0 L), (ly_0_1 L), (ly_0_2 L), (ly_0_3 L), (ly_0_4 L), (ly_0_5 L), (ly_1_0 L), (ly_3_0 L), (ly_3_1 L), (ly_3_2 L), (ly_3_3 L), (ly_3_4 L), (ly_3_5 L), (ly_3_6 L), (ly_3_7 L), (ly_3_8 L), (ly_3_10 L), (ly_3_11 L), (ly_3_12 L), (ly_16_0 L), (ly_18_0 L), (ly_18_1 L), (ly_19_0 L), (ly_21_0 L), (ly_81_1 L), (ly_81_3 L), (ly_81_4 L), (ly_81_5 L), (ly_81_6 L), (ly_81_7 L), (ly_81_8 L), (ly_81_9 L), (ly_81_10 L), (ly_81_11 L), (ly_81_17 L), p1, c1], rfl, by simp [j_X7_write_70, fI_e, aI_l, aZ_l, aR_l, waI_l, waZ_l, fJ_e, fR_e, wfI_e, wfZ_e, wfJ_e, wfR_e, aI_e, aZ_e, aJ_e, aR_e, waI_e, waZ_e, waJ_e, n_sI, n_sJ, n_sR, gI_sI, gI_sJ, gI_sR, gJ_sI, gJ_sJ, gJ_sR, gR_sI, gR_sJ, gR_sR, Option.bind_some, Option.map_some, kdv_0, kdv_1, kdv_2, kdv_3, kdv_4, kdv_5, kdv_6, kdv_7, kdv_8, kdv_9, kdv_10, kdv_11, kdv_12, kdv_13, kdv_14, kdv_15, kdv_16, kdv_17, kdv_18, kdv_19, kdv_20, kdv_21, kdv_22, kdv_23, kdv_24, kdv_25, kdv_26, kdv_27, kdv_28, kdv_29, kdv_30, kdv_31, kdv_32, kdv_33, kdv_34, kdv_35, kdv_36, kdv_37, kdv_38, kdv_39, kdv_40, kdv_41, kdv_42, kdv_43, kdv_44, kdv_45, kdv_46, kdv_47, kdv_48, kdv_49, kdv_50, kdv_51, kdv_52, kdv_53, kdv_54, kdv_55, kdv_56, kdv_57, kdv_58, kdv_59, kdv_60, kdv_61, kdv_62, kdv_63, kdv_64, kdv_65, kdv_66, kdv_67, kdv_68, kdv_69, kdv_70, kdv_71, kdv_72, kdv_73, kdv_74, kdv_75, kdv_76, kdv_77, kdv_78, kdv_79, kdv_80, kdv_81, kdv_82, kdv_83, kdv_84, kdv_85, kdv_86, kdv_87, kdv_88, kdv_89, kdv_90, kdv_91, kdv_92, lnv_2, lnv_4, lnv_5, lnv_6, lnv_7, lnv_8, lnv_9, lnv_10, lnv_11, lnv_12, lnv_13, lnv_14, lnv_15, lnv_17, lnv_18, lnv_20, lnv_22, lnv_24, lnv_25, lnv_53, lnv_54, lnv_82, lnv_83, lnv_84, lnv_85, lnv_86, lnv_87, lnv_88, lnv_89, lnv_90, lnv_91, lnv_92, hN, (ly_0_0 L), (ly_0_1 L), (ly_0_2 L), (ly_0_3 L), (ly_0_4 L), (ly_0_5 L), (ly_1_0 L), (ly_3_0 L), (ly_3_1 L), (ly_3_2 L), (ly_3_3 L), (ly_3_4 L), (ly_3_5 L), (ly_3_6 L), (ly_3_7 L), (ly_3_8 L), (ly_3_10 L), (ly_3_11 L), (ly_3_12 L), (ly_16_0 L), (ly_18_0 L), (ly_18_1 L), (ly_19_0 L), (ly_21_0 L), (ly_81_1 L), (ly_81_3 L), (ly_81_4 L), (ly_81_5 L), (ly_81_6 L), (ly_81_7 L), (ly_81_8 L), (ly_81_9 L), (ly_81_10 L), (ly_81_11 L), (ly_81_17 L), p2, c2], rfl, I, fun _ _ _ _ => rfl, fun _ _ => rfl⟩
  · have bk : k < 12 := by omega
    have c1 : nI k < 12 := (nI_ltI (a := k) (b := 12) (by omega) (by decide)).mpr bk
    have c2 : ¬ nI k = 12 := fun e => h12 ((nI_eq (a := k) (b := 12) (by omega) (by decide)).mp e)
    have e1 : nI k + 1 = nI (k + 1) := nI_1 k
    have b13 : k + 1 < 13 := by omega
    generalize hv : nI l = v
    generalize hu : nI (k + 1) = u at e1
    refine ⟨u, sI (sI M 17 k v) 16 1 u, sI (sI (sI (sI M 17 k v) 16 1 u) 85 0 u) 85 (k + 1) v, ?_, rfl, ?_, rfl, ?_, fun p i g1 g2 => ?_, fun _ _ => rfl⟩
    · simp [j_X6_write_54, fI_e, aI_l, aZ_l, aR_l, waI_l, waZ_l, fJ_e, fR_e, wfI_e, wfZ_e, wfJ_e, wfR_e, aI_e, aZ_e, aJ_e, aR_e, waI_e, waZ_e, waJ_e, n_sI, n_sJ, n_sR, gI_sI, gI_sJ, gI_sR, gJ_sI, gJ_sJ, gJ_sR, gR_sI, gR_sJ, gR_sR, Option.bind_some, Option.map_some, kdv_0, kdv_1, kdv_2, kdv_3, kdv_4, kdv_5, kdv_6, kdv_7, kdv_8, kdv_9, kdv_10, kdv_11, kdv_12, kdv_13, kdv_14, kdv_15, kdv_16, kdv_17, kdv_18, kdv_19, kdv_20, kdv_21, kdv_22, kdv_23, kdv_24, kdv_25, kdv_26, kdv_27, kdv_28, kdv_29, kdv_30, kdv_31, kdv_32, kdv_33, kdv_34, kdv_35, kdv_36, kdv_37, kdv_38, kdv_39, kdv_40, kdv_41, kdv_42, kdv_43, kdv_44, kdv_45, kdv_46, kdv_47, kdv_48, kdv_49, kdv_50, kdv_51, kdv_52, kdv_53, kdv_54, kdv_55, kdv_56, kdv_57, kdv_58, kdv_59, kdv_60, kdv_61, kdv_62, kdv_63, kdv_64, kdv_65, kdv_66, kdv_67, kdv_68, kdv_69, kdv_70, kdv_71, kdv_72, kdv_73, kdv_74, kdv_75, kdv_76, kdv_77, kdv_78, kdv_79, kdv_80, kdv_81, kdv_82, kdv_83, kdv_84, kdv_85, kdv_86, kdv_87, kdv_88, kdv_89, kdv_90, kdv_91, kdv_92, lnv_2, lnv_4, lnv_5, lnv_6, lnv_7, lnv_8, lnv_9, lnv_10, lnv_11, lnv_12, lnv_13, lnv_14, lnv_15, lnv_17, lnv_18, lnv_20, lnv_22, lnv_24, lnv_25, lnv_53, lnv_54, lnv_82, lnv_83, lnv_84, lnv_85, lnv_86, lnv_87, lnv_88, lnv_89, lnv_90, lnv_91, lnv_92, hN, (ly_0_0 L), (ly_0_1 L), (ly_0_2 L), (ly_0_3 L), (ly_0_4 L), (ly_0_5 L), (ly_1_0 L), (ly_3_0 L), (ly_3_1 L), (ly_3_2 L), (ly_3_3 L), (ly_3_4 L), (ly_3_5 L), (ly_3_6 L), (ly_3_7 L), (ly_3_8 L), (ly_3_10 L), (ly_3_11 L), (ly_3_12 L), (ly_16_0 L), (ly_18_0 L), (ly_18_1 L), (ly_19_0 L), (ly_21_0 L), (ly_81_1 L), (ly_81_3 L), (ly_81_4 L), (ly_81_5 L), (ly_81_6 L), (ly_81_7 L), (ly_81_8 L), (ly_81_9 L), (ly_81_10 L), (ly_81_11 L), (ly_81_17 L), p1, c1, e1, bk]
    · have hu' : ∀ N : MM, N.1 = 93 → waI N 85 u v = some (sI N 85 (k + 1) v) := fun N hN' => by rw [← hu]; exact waI_e hN' (by decide) rfl (by rw [lnv_85]; exact b13)
      simp [j_X7_write_70, fI_e, aI_l, aZ_l, aR_l, waI_l, waZ_l, fJ_e, fR_e, wfI_e, wfZ_e, wfJ_e, wfR_e, aI_e, aZ_e, aJ_e, aR_e, waI_e, waZ_e, waJ_e, n_sI, n_sJ, n_sR, gI_sI, gI_sJ, gI_sR, gJ_sI, gJ_sJ, gJ_sR, gR_sI, gR_sJ, gR_sR, Option.bind_some, Option.map_some, kdv_0, kdv_1, kdv_2, kdv_3, kdv_4, kdv_5, kdv_6, kdv_7, kdv_8, kdv_9, kdv_10, kdv_11, kdv_12, kdv_13, kdv_14, kdv_15, kdv_16, kdv_17, kdv_18, kdv_19, kdv_20, kdv_21, kdv_22, kdv_23, kdv_24, kdv_25, kdv_26, kdv_27, kdv_28, kdv_29, kdv_30, kdv_31, kdv_32, kdv_33, kdv_34, kdv_35, kdv_36, kdv_37, kdv_38, kdv_39, kdv_40, kdv_41, kdv_42, kdv_43, kdv_44, kdv_45, kdv_46, kdv_47, kdv_48, kdv_49, kdv_50, kdv_51, kdv_52, kdv_53, kdv_54, kdv_55, kdv_56, kdv_57, kdv_58, kdv_59, kdv_60, kdv_61, kdv_62, kdv_63, kdv_64, kdv_65, kdv_66, kdv_67, kdv_68, kdv_69, kdv_70, kdv_71, kdv_72, kdv_73, kdv_74, kdv_75, kdv_76, kdv_77, kdv_78, kdv_79, kdv_80, kdv_81, kdv_82, kdv_83, kdv_84, kdv_85, kdv_86, kdv_87, kdv_88, kdv_89, kdv_90, kdv_91, kdv_92, lnv_2, lnv_4, lnv_5, lnv_6, lnv_7, lnv_8, lnv_9, lnv_10, lnv_11, lnv_12, lnv_13, lnv_14, lnv_15, lnv_17, lnv_18, lnv_20, lnv_22, lnv_24, lnv_25, lnv_53, lnv_54, lnv_82, lnv_83, lnv_84, lnv_85, lnv_86, lnv_87, lnv_88, lnv_89, lnv_90, lnv_91, lnv_92, hN, (ly_0_0 L), (ly_0_1 L), (ly_0_2 L), (ly_0_3 L), (ly_0_4 L), (ly_0_5 L), (ly_1_0 L), (ly_3_0 L), (ly_3_1 L), (ly_3_2 L), (ly_3_3 L), (ly_3_4 L), (ly_3_5 L), (ly_3_6 L), (ly_3_7 L), (ly_3_8 L), (ly_3_10 L), (ly_3_11 L), (ly_3_12 L), (ly_16_0 L), (ly_18_0 L), (ly_18_1 L), (ly_19_0 L), (ly_21_0 L), (ly_81_1 L), (ly_81_3 L), (ly_81_4 L), (ly_81_5 L), (ly_81_6 L), (ly_81_7 L), (ly_81_8 L), (ly_81_9 L), (ly_81_10 L), (ly_81_11 L), (ly_81_17 L), p2, c2, e1, hu']
    · have a : Ag M (sI (sI (sI (sI M 17 k v) 16 1 u) 85 0 u) 85 (k + 1) v) [16, 17, 85] := (((Ag.rf.sI (by decide)).sI (by decide)).sI (by decide)).sI (by decide)
      refine I.ag a (by decide) rfl (hX.ag a rfl (by decide)) ⟨k + 1, by omega, hu.symm, ?_, fun i hi => ?_⟩ (hI0.ag a (by decide)) (hI1.ag a (by decide)) hJ
      · rw [gI_sI, if_neg (by omega), gI_sI, if_pos ⟨rfl, rfl⟩]
        exact hu.symm
      · by_cases hik : i = k
        · subst hik
          refine ⟨?_, l, hl, hLl, ?_⟩
          · rw [gI_sI, if_pos ⟨rfl, by omega⟩, gI_sI, if_neg (by omega), gI_sI, if_neg (by omega), gI_sI, if_neg (by omega), gI_sI, if_pos ⟨rfl, rfl⟩]
          · rw [gI_sI, if_neg (by omega), gI_sI, if_neg (by omega), gI_sI, if_neg (by omega), gI_sI, if_pos ⟨rfl, rfl⟩]
            exact hv.symm
        · have := p3 i (by omega)
          have s1 : gI (sI (sI (sI (sI M 17 k v) 16 1 u) 85 0 u) 85 (k + 1) v) 85 (1 + i) = gI M 85 (1 + i) := by
            rw [gI_sI, if_neg (by omega), gI_sI, if_neg (by omega), gI_sI, if_neg (by omega), gI_sI, if_neg (by omega)]
          have s2 : gI (sI (sI (sI (sI M 17 k v) 16 1 u) 85 0 u) 85 (k + 1) v) 17 i = gI M 17 i := by
            rw [gI_sI, if_neg (by omega), gI_sI, if_neg (by omega), gI_sI, if_neg (by omega), gI_sI, if_neg (by omega)]
          rw [s1, s2]
          exact this
    · rw [gI_sI, if_neg (by omega), gI_sI, if_neg (by omega)]
/-- the class's way to its end -/
theorem w_c {M : MM} {sp dr k : Nat} {x pr ic : Int32} (L : LAY M sp dr) (hk : k < 12) (p1 : gI M 16 1 = nI (k + 1)) (hc : f_X1_canBeSaid M 3 x = some 1) (hr : gI M 17 k = pr) (hi : f_X1_isAnswer M 3 pr x = some ic) : f_X6_write M 0 x = if ic = 0 then some (-2, M) else j_X6_write_54 M 0 x := by
  have hN := L.1
  have c0 : ¬ nI (k + 1) ≤ (0 : Int32) := fun e => by
    have := (nI_leI (a := k + 1) (b := 0) (by omega) (by decide)).mp e
    omega
  have em : nI (k + 1) - 1 = nI k := nI_pred k
  simp [f_X6_write, fI_e, aI_l, aZ_l, aR_l, waI_l, waZ_l, fJ_e, fR_e, wfI_e, wfZ_e, wfJ_e, wfR_e, aI_e, aZ_e, aJ_e, aR_e, waI_e, waZ_e, waJ_e, n_sI, n_sJ, n_sR, gI_sI, gI_sJ, gI_sR, gJ_sI, gJ_sJ, gJ_sR, gR_sI, gR_sJ, gR_sR, Option.bind_some, Option.map_some, kdv_0, kdv_1, kdv_2, kdv_3, kdv_4, kdv_5, kdv_6, kdv_7, kdv_8, kdv_9, kdv_10, kdv_11, kdv_12, kdv_13, kdv_14, kdv_15, kdv_16, kdv_17, kdv_18, kdv_19, kdv_20, kdv_21, kdv_22, kdv_23, kdv_24, kdv_25, kdv_26, kdv_27, kdv_28, kdv_29, kdv_30, kdv_31, kdv_32, kdv_33, kdv_34, kdv_35, kdv_36, kdv_37, kdv_38, kdv_39, kdv_40, kdv_41, kdv_42, kdv_43, kdv_44, kdv_45, kdv_46, kdv_47, kdv_48, kdv_49, kdv_50, kdv_51, kdv_52, kdv_53, kdv_54, kdv_55, kdv_56, kdv_57, kdv_58, kdv_59, kdv_60, kdv_61, kdv_62, kdv_63, kdv_64, kdv_65, kdv_66, kdv_67, kdv_68, kdv_69, kdv_70, kdv_71, kdv_72, kdv_73, kdv_74, kdv_75, kdv_76, kdv_77, kdv_78, kdv_79, kdv_80, kdv_81, kdv_82, kdv_83, kdv_84, kdv_85, kdv_86, kdv_87, kdv_88, kdv_89, kdv_90, kdv_91, kdv_92, lnv_2, lnv_4, lnv_5, lnv_6, lnv_7, lnv_8, lnv_9, lnv_10, lnv_11, lnv_12, lnv_13, lnv_14, lnv_15, lnv_17, lnv_18, lnv_20, lnv_22, lnv_24, lnv_25, lnv_53, lnv_54, lnv_82, lnv_83, lnv_84, lnv_85, lnv_86, lnv_87, lnv_88, lnv_89, lnv_90, lnv_91, lnv_92, hN, (ly_0_0 L), (ly_0_1 L), (ly_0_2 L), (ly_0_3 L), (ly_0_4 L), (ly_0_5 L), (ly_1_0 L), (ly_3_0 L), (ly_3_1 L), (ly_3_2 L), (ly_3_3 L), (ly_3_4 L), (ly_3_5 L), (ly_3_6 L), (ly_3_7 L), (ly_3_8 L), (ly_3_10 L), (ly_3_11 L), (ly_3_12 L), (ly_16_0 L), (ly_18_0 L), (ly_18_1 L), (ly_19_0 L), (ly_21_0 L), (ly_81_1 L), (ly_81_3 L), (ly_81_4 L), (ly_81_5 L), (ly_81_6 L), (ly_81_7 L), (ly_81_8 L), (ly_81_9 L), (ly_81_10 L), (ly_81_11 L), (ly_81_17 L), hc, p1, c0, em, hk, hr, hi]
/-- the reference's way to its end -/
theorem w_m {M : MM} {sp dr k : Nat} {x pr pl pl' P P' : Int32} (L : LAY M sp dr) (hk : k < 12) (p2 : gI M 85 0 = nI (k + 1)) (hp : f_X7_placeOf M 81 x = some pl) (hpl : ¬ pl = -9) (hr : gI M 85 (k + 1) = pr) (hp' : f_X7_placeOf M 81 pr = some pl') (ha : aI M 89 pl = some P) (ha' : aI M 89 pl' = some P') : f_X7_write M 81 x = if pr = x then some (-2, M) else if P' = P then j_X7_write_70 M 81 x else some (-2, M) := by
  have hN := L.1
  have c0 : ¬ nI (k + 1) ≤ (0 : Int32) := fun e => by
    have := (nI_leI (a := k + 1) (b := 0) (by omega) (by decide)).mp e
    omega
  have bk1 : k + 1 < 13 := by omega
  simp [f_X7_write, fI_e, aI_l, aZ_l, aR_l, waI_l, waZ_l, fJ_e, fR_e, wfI_e, wfZ_e, wfJ_e, wfR_e, aI_e, aZ_e, aJ_e, aR_e, waI_e, waZ_e, waJ_e, n_sI, n_sJ, n_sR, gI_sI, gI_sJ, gI_sR, gJ_sI, gJ_sJ, gJ_sR, gR_sI, gR_sJ, gR_sR, Option.bind_some, Option.map_some, kdv_0, kdv_1, kdv_2, kdv_3, kdv_4, kdv_5, kdv_6, kdv_7, kdv_8, kdv_9, kdv_10, kdv_11, kdv_12, kdv_13, kdv_14, kdv_15, kdv_16, kdv_17, kdv_18, kdv_19, kdv_20, kdv_21, kdv_22, kdv_23, kdv_24, kdv_25, kdv_26, kdv_27, kdv_28, kdv_29, kdv_30, kdv_31, kdv_32, kdv_33, kdv_34, kdv_35, kdv_36, kdv_37, kdv_38, kdv_39, kdv_40, kdv_41, kdv_42, kdv_43, kdv_44, kdv_45, kdv_46, kdv_47, kdv_48, kdv_49, kdv_50, kdv_51, kdv_52, kdv_53, kdv_54, kdv_55, kdv_56, kdv_57, kdv_58, kdv_59, kdv_60, kdv_61, kdv_62, kdv_63, kdv_64, kdv_65, kdv_66, kdv_67, kdv_68, kdv_69, kdv_70, kdv_71, kdv_72, kdv_73, kdv_74, kdv_75, kdv_76, kdv_77, kdv_78, kdv_79, kdv_80, kdv_81, kdv_82, kdv_83, kdv_84, kdv_85, kdv_86, kdv_87, kdv_88, kdv_89, kdv_90, kdv_91, kdv_92, lnv_2, lnv_4, lnv_5, lnv_6, lnv_7, lnv_8, lnv_9, lnv_10, lnv_11, lnv_12, lnv_13, lnv_14, lnv_15, lnv_17, lnv_18, lnv_20, lnv_22, lnv_24, lnv_25, lnv_53, lnv_54, lnv_82, lnv_83, lnv_84, lnv_85, lnv_86, lnv_87, lnv_88, lnv_89, lnv_90, lnv_91, lnv_92, hN, (ly_81_5 L), (ly_81_9 L), hp, hpl, p2, c0, bk1, hr, hp', ha, ha']
theorem eq_write {M : MM} {T : TG} {sp dr : Nat} (I : Inv M T sp dr) (x : Int32) : ∃ r M1 M2, f_X6_write M 0 x = some (r, M1) ∧ M1.1 = M.1 ∧ f_X7_write M1 81 x = some (r, M2) ∧ M2.1 = M1.1 ∧ Inv M2 T sp dr := by
  obtain ⟨L, hT, hC, hM, hS, hLs, hX, hP, hI0, hI1, hJ⟩ := id I
  have hN := L.1
  obtain ⟨n, hn, x1, x2, x3⟩ := hX
  obtain ⟨k, hk, p1, p2, p3⟩ := hP
  have hst : sp = 23 ∨ sp = 52 := by rcases L.2.1 with ⟨h, -⟩ | ⟨h, -⟩ <;> omega
  obtain ⟨ks0, ks1, ks2, ks3, ks4, ks5, ks6, ks7, ks8⟩ := tkf hst
  obtain ⟨lt0, lt1, lt2, lt3⟩ := ly_t L sp hst

  rcases let_cases T x with h | ⟨j, hj, rfl⟩
  · exact ⟨-1, M, M, by simp [f_X6_write, fI_e, aI_l, aZ_l, aR_l, waI_l, waZ_l, fJ_e, fR_e, wfI_e, wfZ_e, wfJ_e, wfR_e, aI_e, aZ_e, aJ_e, aR_e, waI_e, waZ_e, waJ_e, n_sI, n_sJ, n_sR, gI_sI, gI_sJ, gI_sR, gJ_sI, gJ_sJ, gJ_sR, gR_sI, gR_sJ, gR_sR, Option.bind_some, Option.map_some, kdv_0, kdv_1, kdv_2, kdv_3, kdv_4, kdv_5, kdv_6, kdv_7, kdv_8, kdv_9, kdv_10, kdv_11, kdv_12, kdv_13, kdv_14, kdv_15, kdv_16, kdv_17, kdv_18, kdv_19, kdv_20, kdv_21, kdv_22, kdv_23, kdv_24, kdv_25, kdv_26, kdv_27, kdv_28, kdv_29, kdv_30, kdv_31, kdv_32, kdv_33, kdv_34, kdv_35, kdv_36, kdv_37, kdv_38, kdv_39, kdv_40, kdv_41, kdv_42, kdv_43, kdv_44, kdv_45, kdv_46, kdv_47, kdv_48, kdv_49, kdv_50, kdv_51, kdv_52, kdv_53, kdv_54, kdv_55, kdv_56, kdv_57, kdv_58, kdv_59, kdv_60, kdv_61, kdv_62, kdv_63, kdv_64, kdv_65, kdv_66, kdv_67, kdv_68, kdv_69, kdv_70, kdv_71, kdv_72, kdv_73, kdv_74, kdv_75, kdv_76, kdv_77, kdv_78, kdv_79, kdv_80, kdv_81, kdv_82, kdv_83, kdv_84, kdv_85, kdv_86, kdv_87, kdv_88, kdv_89, kdv_90, kdv_91, kdv_92, lnv_2, lnv_4, lnv_5, lnv_6, lnv_7, lnv_8, lnv_9, lnv_10, lnv_11, lnv_12, lnv_13, lnv_14, lnv_15, lnv_17, lnv_18, lnv_20, lnv_22, lnv_24, lnv_25, lnv_53, lnv_54, lnv_82, lnv_83, lnv_84, lnv_85, lnv_86, lnv_87, lnv_88, lnv_89, lnv_90, lnv_91, lnv_92, hN, (ly_0_0 L), (ly_0_1 L), (ly_0_2 L), (ly_0_3 L), (ly_0_4 L), (ly_0_5 L), (ly_1_0 L), (ly_3_0 L), (ly_3_1 L), (ly_3_2 L), (ly_3_3 L), (ly_3_4 L), (ly_3_5 L), (ly_3_6 L), (ly_3_7 L), (ly_3_8 L), (ly_3_10 L), (ly_3_11 L), (ly_3_12 L), (ly_16_0 L), (ly_18_0 L), (ly_18_1 L), (ly_19_0 L), (ly_21_0 L), (ly_81_1 L), (ly_81_3 L), (ly_81_4 L), (ly_81_5 L), (ly_81_6 L), (ly_81_7 L), (ly_81_8 L), (ly_81_9 L), (ly_81_10 L), (ly_81_11 L), (ly_81_17 L), c_can_no L hS h], rfl, by simp [f_X7_write, hN, kdv_81, m_place_no L hLs h], rfl, I⟩
  · have hlen := Lt_819 (T := T)
    obtain ⟨hl, hLj⟩ := Lt_at hj
    have hr := isL_row hLj
    have hc := c_can L hS hl
    rw [hLj] at hc
    have hc : f_X1_canBeSaid M 3 (nI (Lt T)[j]) = some 1 := hc
    have hnm : ¬ nI j = -9 := nI_nm (by omega) (by decide)
    obtain ⟨r, M1, M2, g1, g2, g3, g4, g5, g7, g8⟩ := w_end I hk p1 p2 p3 hl hLj
    have hN1 : M1.1 = 93 := g2.trans hN
    have L1 : LAY M1 sp dr := L.of g2 g8
    have hLs1 : LST M1 T := by
      unfold LST at hLs ⊢
      simp only [g7 81 _ (by decide) (by decide), g7 88 _ (by decide) (by decide), g7 89 _ (by decide) (by decide), g7 90 _ (by decide) (by decide), g7 91 _ (by decide) (by decide)]
      exact hLs
    have hp := m_place_at L hLs hj
    have hp1 := m_place_at L1 hLs1 hj
    have m85 : ∀ i, gI M1 85 i = gI M 85 i := fun i => g7 85 i (by decide) (by decide)
    have ha := aI_e (p := 89) (i := j) hN (by decide) rfl (by rw [lnv_89]; omega)
    have ha1 := aI_e (p := 89) (i := j) hN1 (by decide) rfl (by rw [lnv_89]; omega)
    rw [(hLs.2 j hj).2.1] at ha
    rw [(hLs1.2 j hj).2.1] at ha1
    cases k with
    | zero =>
      have c0 : (nI 0 : Int32) ≤ 0 := by decide
      have p2' : gI M1 85 0 = nI 0 := by rw [m85]; exact p2
      refine ⟨r, M1, M2, ?_, g2, ?_, g4, g5⟩
      · simp [f_X6_write, fI_e, aI_l, aZ_l, aR_l, waI_l, waZ_l, fJ_e, fR_e, wfI_e, wfZ_e, wfJ_e, wfR_e, aI_e, aZ_e, aJ_e, aR_e, waI_e, waZ_e, waJ_e, n_sI, n_sJ, n_sR, gI_sI, gI_sJ, gI_sR, gJ_sI, gJ_sJ, gJ_sR, gR_sI, gR_sJ, gR_sR, Option.bind_some, Option.map_some, kdv_0, kdv_1, kdv_2, kdv_3, kdv_4, kdv_5, kdv_6, kdv_7, kdv_8, kdv_9, kdv_10, kdv_11, kdv_12, kdv_13, kdv_14, kdv_15, kdv_16, kdv_17, kdv_18, kdv_19, kdv_20, kdv_21, kdv_22, kdv_23, kdv_24, kdv_25, kdv_26, kdv_27, kdv_28, kdv_29, kdv_30, kdv_31, kdv_32, kdv_33, kdv_34, kdv_35, kdv_36, kdv_37, kdv_38, kdv_39, kdv_40, kdv_41, kdv_42, kdv_43, kdv_44, kdv_45, kdv_46, kdv_47, kdv_48, kdv_49, kdv_50, kdv_51, kdv_52, kdv_53, kdv_54, kdv_55, kdv_56, kdv_57, kdv_58, kdv_59, kdv_60, kdv_61, kdv_62, kdv_63, kdv_64, kdv_65, kdv_66, kdv_67, kdv_68, kdv_69, kdv_70, kdv_71, kdv_72, kdv_73, kdv_74, kdv_75, kdv_76, kdv_77, kdv_78, kdv_79, kdv_80, kdv_81, kdv_82, kdv_83, kdv_84, kdv_85, kdv_86, kdv_87, kdv_88, kdv_89, kdv_90, kdv_91, kdv_92, lnv_2, lnv_4, lnv_5, lnv_6, lnv_7, lnv_8, lnv_9, lnv_10, lnv_11, lnv_12, lnv_13, lnv_14, lnv_15, lnv_17, lnv_18, lnv_20, lnv_22, lnv_24, lnv_25, lnv_53, lnv_54, lnv_82, lnv_83, lnv_84, lnv_85, lnv_86, lnv_87, lnv_88, lnv_89, lnv_90, lnv_91, lnv_92, hN, (ly_0_0 L), (ly_0_1 L), (ly_0_2 L), (ly_0_3 L), (ly_0_4 L), (ly_0_5 L), (ly_1_0 L), (ly_3_0 L), (ly_3_1 L), (ly_3_2 L), (ly_3_3 L), (ly_3_4 L), (ly_3_5 L), (ly_3_6 L), (ly_3_7 L), (ly_3_8 L), (ly_3_10 L), (ly_3_11 L), (ly_3_12 L), (ly_16_0 L), (ly_18_0 L), (ly_18_1 L), (ly_19_0 L), (ly_21_0 L), (ly_81_1 L), (ly_81_3 L), (ly_81_4 L), (ly_81_5 L), (ly_81_6 L), (ly_81_7 L), (ly_81_8 L), (ly_81_9 L), (ly_81_10 L), (ly_81_11 L), (ly_81_17 L), hc, p1, c0, g1]
      · simp [f_X7_write, fI_e, aI_l, aZ_l, aR_l, waI_l, waZ_l, fJ_e, fR_e, wfI_e, wfZ_e, wfJ_e, wfR_e, aI_e, aZ_e, aJ_e, aR_e, waI_e, waZ_e, waJ_e, n_sI, n_sJ, n_sR, gI_sI, gI_sJ, gI_sR, gJ_sI, gJ_sJ, gJ_sR, gR_sI, gR_sJ, gR_sR, Option.bind_some, Option.map_some, kdv_0, kdv_1, kdv_2, kdv_3, kdv_4, kdv_5, kdv_6, kdv_7, kdv_8, kdv_9, kdv_10, kdv_11, kdv_12, kdv_13, kdv_14, kdv_15, kdv_16, kdv_17, kdv_18, kdv_19, kdv_20, kdv_21, kdv_22, kdv_23, kdv_24, kdv_25, kdv_26, kdv_27, kdv_28, kdv_29, kdv_30, kdv_31, kdv_32, kdv_33, kdv_34, kdv_35, kdv_36, kdv_37, kdv_38, kdv_39, kdv_40, kdv_41, kdv_42, kdv_43, kdv_44, kdv_45, kdv_46, kdv_47, kdv_48, kdv_49, kdv_50, kdv_51, kdv_52, kdv_53, kdv_54, kdv_55, kdv_56, kdv_57, kdv_58, kdv_59, kdv_60, kdv_61, kdv_62, kdv_63, kdv_64, kdv_65, kdv_66, kdv_67, kdv_68, kdv_69, kdv_70, kdv_71, kdv_72, kdv_73, kdv_74, kdv_75, kdv_76, kdv_77, kdv_78, kdv_79, kdv_80, kdv_81, kdv_82, kdv_83, kdv_84, kdv_85, kdv_86, kdv_87, kdv_88, kdv_89, kdv_90, kdv_91, kdv_92, lnv_2, lnv_4, lnv_5, lnv_6, lnv_7, lnv_8, lnv_9, lnv_10, lnv_11, lnv_12, lnv_13, lnv_14, lnv_15, lnv_17, lnv_18, lnv_20, lnv_22, lnv_24, lnv_25, lnv_53, lnv_54, lnv_82, lnv_83, lnv_84, lnv_85, lnv_86, lnv_87, lnv_88, lnv_89, lnv_90, lnv_91, lnv_92, hN1, (ly_81_5 L1), hp1, hnm, p2', c0, g3]
    | succ k =>
      obtain ⟨v1, l', hl', hL', v2⟩ := p3 k (by omega)
      have hci := c_isAns L hT hS hl' hl hL'
      obtain ⟨j', hj', ej'⟩ := List.getElem_of_mem (Lt_mem.mpr ⟨hl', hL'⟩)
      have v1' : gI M 85 (k + 1) = nI l' := by rw [Nat.add_comm, v1, v2]
      have v1'' : gI M1 85 (k + 1) = nI l' := by rw [m85]; exact v1'
      have p2' : gI M1 85 0 = nI (k + 1) := by rw [m85]; exact p2
      have hpp := m_place_at L hLs hj'
      have hpp1 := m_place_at L1 hLs1 hj'
      rw [ej'] at hpp hpp1
      have hb := aI_e (p := 89) (i := j') hN (by decide) rfl (by rw [lnv_89]; omega)
      have hb1 := aI_e (p := 89) (i := j') hN1 (by decide) rfl (by rw [lnv_89]; omega)
      rw [(hLs.2 j' hj').2.1, ej'] at hb
      rw [(hLs1.2 j' hj').2.1, ej'] at hb1
      have wc := w_c L (by omega) p1 hc v2 hci
      have wm := w_m L (by omega) p2 hp hnm v1' hpp ha hb
      have wm1 := w_m L1 (by omega) p2' hp1 hnm v1'' hpp1 ha1 hb1
      have hpk := pk4_inj hT hr (isL_row hL')
      have hee : (nI l' = nI (Lt T)[j]) ↔ l' = (Lt T)[j] := nI_eq (by omega) (by omega)
      by_cases hyes : ¬ l' = (Lt T)[j] ∧ dd T (Lt T)[j] l' = 0
      · have hnr : near T l' 0 (Lt T)[j] = true := by
          have h1 : (Lt T)[j] ≠ l' := fun e => hyes.1 e.symm
          have h2 : dd T l' (Lt T)[j] ≤ 0 := by rw [dd_comm]; exact Nat.le_of_eq hyes.2
          simp only [near, hLj, decide_eq_true h1, decide_eq_true h2, Bool.and_true]
        rw [hnr] at wc
        refine ⟨r, M1, M2, ?_, g2, ?_, g4, g5⟩
        · rw [wc, if_neg (by decide)]
          exact g1
        · rw [wm1, if_neg (fun e => hyes.1 (hee.mp e)), if_pos (hpk.mpr hyes.2)]
          exact g3
      · have hnr : near T l' 0 (Lt T)[j] = false := by
          cases hb : near T l' 0 (Lt T)[j] with
          | false => rfl
          | true =>
            exfalso
            unfold near at hb
            rw [Bool.and_eq_true, Bool.and_eq_true, decide_eq_true_eq, decide_eq_true_eq] at hb
            exact hyes ⟨fun e => hb.2.1 e.symm, by rw [dd_comm]; exact Nat.le_zero.mp hb.2.2⟩
        rw [hnr] at wc
        refine ⟨-2, M, M, ?_, rfl, ?_, rfl, I⟩
        · rw [wc, if_pos (by decide)]
        · rw [wm]
          by_cases h1 : l' = (Lt T)[j]
          · rw [if_pos (hee.mpr h1)]
          · rw [if_neg (fun e => h1 (hee.mp e)), if_neg (fun e => hyes ⟨h1, hpk.mp e⟩)]
/-! side -/
def sdI (T : TG) (r : Nat → Nat) (s : Nat) : Nat → Int32
  | 0 => 0
  | i + 1 => sdI T r s i + if i % 2 = s then nI (ownL T (r i)) else nI (othL T (r i))
theorem eq_side {M : MM} {T : TG} {sp dr : Nat} (I : Inv M T sp dr) (x : Int32) : ∃ r, f_X6_side M 0 x = some r ∧ f_X7_side M 81 x = some r := by
  obtain ⟨L, hT, hC, hM, hS, hLs, hX, hP, hI0, hI1, hJ⟩ := id I
  have hN := L.1
  obtain ⟨n, hn, x1, x2, x3⟩ := hX
  obtain ⟨k, hk, p1, p2, p3⟩ := hP
  have hst : sp = 23 ∨ sp = 52 := by rcases L.2.1 with ⟨h, -⟩ | ⟨h, -⟩ <;> omega
  obtain ⟨ks0, ks1, ks2, ks3, ks4, ks5, ks6, ks7, ks8⟩ := tkf hst
  obtain ⟨lt0, lt1, lt2, lt3⟩ := ly_t L sp hst

  obtain ⟨r, hr⟩ : ∃ r : Nat → Nat, ∀ i, i < k → r i < 1000 ∧ isL T (r i) = true ∧ gI M 17 i = nI (r i) ∧ gI M 85 (i + 1) = nI (r i) := by
    refine ⟨fun i => (gI M 17 i).toNatClampNeg, fun i hi => ?_⟩
    obtain ⟨e, l, hl, hL, hv⟩ := p3 i hi
    have e' : (gI M 17 i).toNatClampNeg = l := by rw [hv]; exact nI_clamp (by omega)
    simp only [e']
    exact ⟨hl, hL, hv, by rw [Nat.add_comm]; exact e.trans hv⟩
  rcases i_cases x with hy | ⟨j, hj, rfl⟩
  · exact ⟨-1, by simp [f_X6_side, hN, kdv_0, hy], by simp [f_X7_side, hN, kdv_81, m_in_neg hy]⟩
  · have hin := m_in (M := M) (j := j) (a := 0) (b := 1) hj (by decide) (by decide)
    rw [show nI 0 = (0 : Int32) from rfl, show nI 1 = (1 : Int32) from rfl] at hin
    have h0 : ¬ nI j < 0 := nI_pos hj
    by_cases h2 : 2 ≤ j
    · have h3 : ¬ j < 2 := by omega
      have h4 : ¬ j ≤ 1 := by omega
      exact ⟨-1, by simp [f_X6_side, hN, kdv_0, h0, n_lt_l, hj, h3], by simp [f_X7_side, hN, kdv_81, hin, h4]⟩
    · have h3 : j < 2 := by omega
      have h4 : j ≤ 1 := by omega
      refine ⟨sdI T r j k, ?_, ?_⟩
      · simp [f_X6_side, hN, kdv_0, h0, n_lt_l, hj, h3]
        refine lp_run (st := fun i => (sdI T r j i, nI i)) k (fun i hi => ?_) ?_ FU (show k < 4000 by omega)
        · have c1 : ¬ nI k ≤ nI i := fun e => by have := (nI_leI (by omega) (by omega)).mp e; omega
          have c2 : i < 12 := by omega
          obtain ⟨hl, hLi, w1, w2⟩ := hr i hi
          obtain ⟨-, t6, t7, -, -, -⟩ := hS.2.2.1 _ hl (isL_row hLi)
          have e1 : nI i + 1 = nI (i + 1) := nI_1 i
          have em : nI i - nI i / 2 * 2 = nI (i % 2) := pk_rem (d := 2) (by omega) (by decide) (by decide)
          have ec : (nI (i % 2) = nI j) = (i % 2 = j) := nn_eq (by omega) (by omega)
          simp only [z_X6_side_15, em, ec, e1, j_X6_side_68]
          by_cases hq : i % 2 = j
          · simp [fI_e, aI_l, aZ_l, aR_l, waI_l, waZ_l, fJ_e, fR_e, wfI_e, wfZ_e, wfJ_e, wfR_e, aI_e, aZ_e, aJ_e, aR_e, waI_e, waZ_e, waJ_e, n_sI, n_sJ, n_sR, gI_sI, gI_sJ, gI_sR, gJ_sI, gJ_sJ, gJ_sR, gR_sI, gR_sJ, gR_sR, Option.bind_some, Option.map_some, kdv_0, kdv_1, kdv_2, kdv_3, kdv_4, kdv_5, kdv_6, kdv_7, kdv_8, kdv_9, kdv_10, kdv_11, kdv_12, kdv_13, kdv_14, kdv_15, kdv_16, kdv_17, kdv_18, kdv_19, kdv_20, kdv_21, kdv_22, kdv_23, kdv_24, kdv_25, kdv_26, kdv_27, kdv_28, kdv_29, kdv_30, kdv_31, kdv_32, kdv_33, kdv_34, kdv_35, kdv_36, kdv_37, kdv_38, kdv_39, kdv_40, kdv_41, kdv_42, kdv_43, kdv_44, kdv_45, kdv_46, kdv_47, kdv_48, kdv_49, kdv_50, kdv_51, kdv_52, kdv_53, kdv_54, kdv_55, kdv_56, kdv_57, kdv_58, kdv_59, kdv_60, kdv_61, kdv_62, kdv_63, kdv_64, kdv_65, kdv_66, kdv_67, kdv_68, kdv_69, kdv_70, kdv_71, kdv_72, kdv_73, kdv_74, kdv_75, kdv_76, kdv_77, kdv_78, kdv_79, kdv_80, kdv_81, kdv_82, kdv_83, kdv_84, kdv_85, kdv_86, kdv_87, kdv_88, kdv_89, kdv_90, kdv_91, kdv_92, lnv_2, lnv_4, lnv_5, lnv_6, lnv_7, lnv_8, lnv_9, lnv_10, lnv_11, lnv_12, lnv_13, lnv_14, lnv_15, lnv_17, lnv_18, lnv_20, lnv_22, lnv_24, lnv_25, lnv_53, lnv_54, lnv_82, lnv_83, lnv_84, lnv_85, lnv_86, lnv_87, lnv_88, lnv_89, lnv_90, lnv_91, lnv_92, hN, (ly_0_0 L), (ly_0_1 L), (ly_0_2 L), (ly_0_3 L), (ly_0_4 L), (ly_0_5 L), (ly_1_0 L), (ly_3_0 L), (ly_3_1 L), (ly_3_2 L), (ly_3_3 L), (ly_3_4 L), (ly_3_5 L), (ly_3_6 L), (ly_3_7 L), (ly_3_8 L), (ly_3_10 L), (ly_3_11 L), (ly_3_12 L), (ly_16_0 L), (ly_18_0 L), (ly_18_1 L), (ly_19_0 L), (ly_21_0 L), (ly_81_1 L), (ly_81_3 L), (ly_81_4 L), (ly_81_5 L), (ly_81_6 L), (ly_81_7 L), (ly_81_8 L), (ly_81_9 L), (ly_81_10 L), (ly_81_11 L), (ly_81_17 L), p1, c1, c2, w1, hl, t6, hq, sdI]
          · simp [fI_e, aI_l, aZ_l, aR_l, waI_l, waZ_l, fJ_e, fR_e, wfI_e, wfZ_e, wfJ_e, wfR_e, aI_e, aZ_e, aJ_e, aR_e, waI_e, waZ_e, waJ_e, n_sI, n_sJ, n_sR, gI_sI, gI_sJ, gI_sR, gJ_sI, gJ_sJ, gJ_sR, gR_sI, gR_sJ, gR_sR, Option.bind_some, Option.map_some, kdv_0, kdv_1, kdv_2, kdv_3, kdv_4, kdv_5, kdv_6, kdv_7, kdv_8, kdv_9, kdv_10, kdv_11, kdv_12, kdv_13, kdv_14, kdv_15, kdv_16, kdv_17, kdv_18, kdv_19, kdv_20, kdv_21, kdv_22, kdv_23, kdv_24, kdv_25, kdv_26, kdv_27, kdv_28, kdv_29, kdv_30, kdv_31, kdv_32, kdv_33, kdv_34, kdv_35, kdv_36, kdv_37, kdv_38, kdv_39, kdv_40, kdv_41, kdv_42, kdv_43, kdv_44, kdv_45, kdv_46, kdv_47, kdv_48, kdv_49, kdv_50, kdv_51, kdv_52, kdv_53, kdv_54, kdv_55, kdv_56, kdv_57, kdv_58, kdv_59, kdv_60, kdv_61, kdv_62, kdv_63, kdv_64, kdv_65, kdv_66, kdv_67, kdv_68, kdv_69, kdv_70, kdv_71, kdv_72, kdv_73, kdv_74, kdv_75, kdv_76, kdv_77, kdv_78, kdv_79, kdv_80, kdv_81, kdv_82, kdv_83, kdv_84, kdv_85, kdv_86, kdv_87, kdv_88, kdv_89, kdv_90, kdv_91, kdv_92, lnv_2, lnv_4, lnv_5, lnv_6, lnv_7, lnv_8, lnv_9, lnv_10, lnv_11, lnv_12, lnv_13, lnv_14, lnv_15, lnv_17, lnv_18, lnv_20, lnv_22, lnv_24, lnv_25, lnv_53, lnv_54, lnv_82, lnv_83, lnv_84, lnv_85, lnv_86, lnv_87, lnv_88, lnv_89, lnv_90, lnv_91, lnv_92, hN, (ly_0_0 L), (ly_0_1 L), (ly_0_2 L), (ly_0_3 L), (ly_0_4 L), (ly_0_5 L), (ly_1_0 L), (ly_3_0 L), (ly_3_1 L), (ly_3_2 L), (ly_3_3 L), (ly_3_4 L), (ly_3_5 L), (ly_3_6 L), (ly_3_7 L), (ly_3_8 L), (ly_3_10 L), (ly_3_11 L), (ly_3_12 L), (ly_16_0 L), (ly_18_0 L), (ly_18_1 L), (ly_19_0 L), (ly_21_0 L), (ly_81_1 L), (ly_81_3 L), (ly_81_4 L), (ly_81_5 L), (ly_81_6 L), (ly_81_7 L), (ly_81_8 L), (ly_81_9 L), (ly_81_10 L), (ly_81_11 L), (ly_81_17 L), p1, c1, c2, w1, hl, t7, hq, sdI]
        · simp [z_X6_side_15, fI_e, aI_l, aZ_l, aR_l, waI_l, waZ_l, fJ_e, fR_e, wfI_e, wfZ_e, wfJ_e, wfR_e, aI_e, aZ_e, aJ_e, aR_e, waI_e, waZ_e, waJ_e, n_sI, n_sJ, n_sR, gI_sI, gI_sJ, gI_sR, gJ_sI, gJ_sJ, gJ_sR, gR_sI, gR_sJ, gR_sR, Option.bind_some, Option.map_some, kdv_0, kdv_1, kdv_2, kdv_3, kdv_4, kdv_5, kdv_6, kdv_7, kdv_8, kdv_9, kdv_10, kdv_11, kdv_12, kdv_13, kdv_14, kdv_15, kdv_16, kdv_17, kdv_18, kdv_19, kdv_20, kdv_21, kdv_22, kdv_23, kdv_24, kdv_25, kdv_26, kdv_27, kdv_28, kdv_29, kdv_30, kdv_31, kdv_32, kdv_33, kdv_34, kdv_35, kdv_36, kdv_37, kdv_38, kdv_39, kdv_40, kdv_41, kdv_42, kdv_43, kdv_44, kdv_45, kdv_46, kdv_47, kdv_48, kdv_49, kdv_50, kdv_51, kdv_52, kdv_53, kdv_54, kdv_55, kdv_56, kdv_57, kdv_58, kdv_59, kdv_60, kdv_61, kdv_62, kdv_63, kdv_64, kdv_65, kdv_66, kdv_67, kdv_68, kdv_69, kdv_70, kdv_71, kdv_72, kdv_73, kdv_74, kdv_75, kdv_76, kdv_77, kdv_78, kdv_79, kdv_80, kdv_81, kdv_82, kdv_83, kdv_84, kdv_85, kdv_86, kdv_87, kdv_88, kdv_89, kdv_90, kdv_91, kdv_92, lnv_2, lnv_4, lnv_5, lnv_6, lnv_7, lnv_8, lnv_9, lnv_10, lnv_11, lnv_12, lnv_13, lnv_14, lnv_15, lnv_17, lnv_18, lnv_20, lnv_22, lnv_24, lnv_25, lnv_53, lnv_54, lnv_82, lnv_83, lnv_84, lnv_85, lnv_86, lnv_87, lnv_88, lnv_89, lnv_90, lnv_91, lnv_92, hN, (ly_0_0 L), (ly_0_1 L), (ly_0_2 L), (ly_0_3 L), (ly_0_4 L), (ly_0_5 L), (ly_1_0 L), (ly_3_0 L), (ly_3_1 L), (ly_3_2 L), (ly_3_3 L), (ly_3_4 L), (ly_3_5 L), (ly_3_6 L), (ly_3_7 L), (ly_3_8 L), (ly_3_10 L), (ly_3_11 L), (ly_3_12 L), (ly_16_0 L), (ly_18_0 L), (ly_18_1 L), (ly_19_0 L), (ly_21_0 L), (ly_81_1 L), (ly_81_3 L), (ly_81_4 L), (ly_81_5 L), (ly_81_6 L), (ly_81_7 L), (ly_81_8 L), (ly_81_9 L), (ly_81_10 L), (ly_81_11 L), (ly_81_17 L), p1]
      · simp [f_X7_side, hN, kdv_81, hin, h4]
        refine lp_run (st := fun i => (sdI T r j i, nI i)) k (fun i hi => ?_) ?_ FU (show k < 4000 by omega)
        · have c1 : ¬ nI k ≤ nI i := fun e => by have := (nI_leI (by omega) (by omega)).mp e; omega
          have c2 : i + 1 < 13 := by omega
          obtain ⟨hl, hLi, w1, w2⟩ := hr i hi
          obtain ⟨j', hj', ej'⟩ := List.getElem_of_mem (Lt_mem.mpr ⟨hl, hLi⟩)
          have hpp := m_place_at L hLs hj'
          obtain ⟨-, -, t6, t7⟩ := hLs.2 j' hj'
          rw [ej'] at hpp t6 t7
          have hlen := Lt_819 (T := T)
          have bj' : j' < 820 := by omega
          have e1 : nI i + 1 = nI (i + 1) := nI_1 i
          have em : nI i - nI i / 2 * 2 = nI (i % 2) := pk_rem (d := 2) (by omega) (by decide) (by decide)
          have ec : (nI (i % 2) = nI j) = (i % 2 = j) := nn_eq (by omega) (by omega)
          simp only [z_X7_side_15, em, ec, e1, j_X7_side_64]
          by_cases hq : i % 2 = j
          · simp [fI_e, aI_l, aZ_l, aR_l, waI_l, waZ_l, fJ_e, fR_e, wfI_e, wfZ_e, wfJ_e, wfR_e, aI_e, aZ_e, aJ_e, aR_e, waI_e, waZ_e, waJ_e, n_sI, n_sJ, n_sR, gI_sI, gI_sJ, gI_sR, gJ_sI, gJ_sJ, gJ_sR, gR_sI, gR_sJ, gR_sR, Option.bind_some, Option.map_some, kdv_0, kdv_1, kdv_2, kdv_3, kdv_4, kdv_5, kdv_6, kdv_7, kdv_8, kdv_9, kdv_10, kdv_11, kdv_12, kdv_13, kdv_14, kdv_15, kdv_16, kdv_17, kdv_18, kdv_19, kdv_20, kdv_21, kdv_22, kdv_23, kdv_24, kdv_25, kdv_26, kdv_27, kdv_28, kdv_29, kdv_30, kdv_31, kdv_32, kdv_33, kdv_34, kdv_35, kdv_36, kdv_37, kdv_38, kdv_39, kdv_40, kdv_41, kdv_42, kdv_43, kdv_44, kdv_45, kdv_46, kdv_47, kdv_48, kdv_49, kdv_50, kdv_51, kdv_52, kdv_53, kdv_54, kdv_55, kdv_56, kdv_57, kdv_58, kdv_59, kdv_60, kdv_61, kdv_62, kdv_63, kdv_64, kdv_65, kdv_66, kdv_67, kdv_68, kdv_69, kdv_70, kdv_71, kdv_72, kdv_73, kdv_74, kdv_75, kdv_76, kdv_77, kdv_78, kdv_79, kdv_80, kdv_81, kdv_82, kdv_83, kdv_84, kdv_85, kdv_86, kdv_87, kdv_88, kdv_89, kdv_90, kdv_91, kdv_92, lnv_2, lnv_4, lnv_5, lnv_6, lnv_7, lnv_8, lnv_9, lnv_10, lnv_11, lnv_12, lnv_13, lnv_14, lnv_15, lnv_17, lnv_18, lnv_20, lnv_22, lnv_24, lnv_25, lnv_53, lnv_54, lnv_82, lnv_83, lnv_84, lnv_85, lnv_86, lnv_87, lnv_88, lnv_89, lnv_90, lnv_91, lnv_92, hN, (ly_81_5 L), (ly_81_10 L), (ly_81_11 L), p2, c1, c2, w2, hpp, bj', t6, hq, sdI]
          · simp [fI_e, aI_l, aZ_l, aR_l, waI_l, waZ_l, fJ_e, fR_e, wfI_e, wfZ_e, wfJ_e, wfR_e, aI_e, aZ_e, aJ_e, aR_e, waI_e, waZ_e, waJ_e, n_sI, n_sJ, n_sR, gI_sI, gI_sJ, gI_sR, gJ_sI, gJ_sJ, gJ_sR, gR_sI, gR_sJ, gR_sR, Option.bind_some, Option.map_some, kdv_0, kdv_1, kdv_2, kdv_3, kdv_4, kdv_5, kdv_6, kdv_7, kdv_8, kdv_9, kdv_10, kdv_11, kdv_12, kdv_13, kdv_14, kdv_15, kdv_16, kdv_17, kdv_18, kdv_19, kdv_20, kdv_21, kdv_22, kdv_23, kdv_24, kdv_25, kdv_26, kdv_27, kdv_28, kdv_29, kdv_30, kdv_31, kdv_32, kdv_33, kdv_34, kdv_35, kdv_36, kdv_37, kdv_38, kdv_39, kdv_40, kdv_41, kdv_42, kdv_43, kdv_44, kdv_45, kdv_46, kdv_47, kdv_48, kdv_49, kdv_50, kdv_51, kdv_52, kdv_53, kdv_54, kdv_55, kdv_56, kdv_57, kdv_58, kdv_59, kdv_60, kdv_61, kdv_62, kdv_63, kdv_64, kdv_65, kdv_66, kdv_67, kdv_68, kdv_69, kdv_70, kdv_71, kdv_72, kdv_73, kdv_74, kdv_75, kdv_76, kdv_77, kdv_78, kdv_79, kdv_80, kdv_81, kdv_82, kdv_83, kdv_84, kdv_85, kdv_86, kdv_87, kdv_88, kdv_89, kdv_90, kdv_91, kdv_92, lnv_2, lnv_4, lnv_5, lnv_6, lnv_7, lnv_8, lnv_9, lnv_10, lnv_11, lnv_12, lnv_13, lnv_14, lnv_15, lnv_17, lnv_18, lnv_20, lnv_22, lnv_24, lnv_25, lnv_53, lnv_54, lnv_82, lnv_83, lnv_84, lnv_85, lnv_86, lnv_87, lnv_88, lnv_89, lnv_90, lnv_91, lnv_92, hN, (ly_81_5 L), (ly_81_10 L), (ly_81_11 L), p2, c1, c2, w2, hpp, bj', t7, hq, sdI]
        · simp [z_X7_side_15, fI_e, aI_l, aZ_l, aR_l, waI_l, waZ_l, fJ_e, fR_e, wfI_e, wfZ_e, wfJ_e, wfR_e, aI_e, aZ_e, aJ_e, aR_e, waI_e, waZ_e, waJ_e, n_sI, n_sJ, n_sR, gI_sI, gI_sJ, gI_sR, gJ_sI, gJ_sJ, gJ_sR, gR_sI, gR_sJ, gR_sR, Option.bind_some, Option.map_some, kdv_0, kdv_1, kdv_2, kdv_3, kdv_4, kdv_5, kdv_6, kdv_7, kdv_8, kdv_9, kdv_10, kdv_11, kdv_12, kdv_13, kdv_14, kdv_15, kdv_16, kdv_17, kdv_18, kdv_19, kdv_20, kdv_21, kdv_22, kdv_23, kdv_24, kdv_25, kdv_26, kdv_27, kdv_28, kdv_29, kdv_30, kdv_31, kdv_32, kdv_33, kdv_34, kdv_35, kdv_36, kdv_37, kdv_38, kdv_39, kdv_40, kdv_41, kdv_42, kdv_43, kdv_44, kdv_45, kdv_46, kdv_47, kdv_48, kdv_49, kdv_50, kdv_51, kdv_52, kdv_53, kdv_54, kdv_55, kdv_56, kdv_57, kdv_58, kdv_59, kdv_60, kdv_61, kdv_62, kdv_63, kdv_64, kdv_65, kdv_66, kdv_67, kdv_68, kdv_69, kdv_70, kdv_71, kdv_72, kdv_73, kdv_74, kdv_75, kdv_76, kdv_77, kdv_78, kdv_79, kdv_80, kdv_81, kdv_82, kdv_83, kdv_84, kdv_85, kdv_86, kdv_87, kdv_88, kdv_89, kdv_90, kdv_91, kdv_92, lnv_2, lnv_4, lnv_5, lnv_6, lnv_7, lnv_8, lnv_9, lnv_10, lnv_11, lnv_12, lnv_13, lnv_14, lnv_15, lnv_17, lnv_18, lnv_20, lnv_22, lnv_24, lnv_25, lnv_53, lnv_54, lnv_82, lnv_83, lnv_84, lnv_85, lnv_86, lnv_87, lnv_88, lnv_89, lnv_90, lnv_91, lnv_92, hN, (ly_81_5 L), p2]
