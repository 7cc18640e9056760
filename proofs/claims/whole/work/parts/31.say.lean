theorem nI_nm {j : Nat} (hj : j < 2147483648) {x : Int32} (hx : x < 0) : ¬ nI j = x := fun e => nI_pos hj (by rw [e]; exact hx)
theorem count_sum : ∀ (A : List Nat), (∀ x ∈ A, x < 8) → A.count 0 + A.count 1 + A.count 2 + A.count 3 + A.count 4 + A.count 5 + A.count 6 + A.count 7 = A.length
  | [], _ => rfl
  | a :: A, h => by
    have ih := count_sum A (fun x hx => h x (by simp [hx]))
    have ha := h a (by simp)
    simp only [List.count_cons, List.length_cons]
    rcases (show a = 0 ∨ a = 1 ∨ a = 2 ∨ a = 3 ∨ a = 4 ∨ a = 5 ∨ a = 6 ∨ a = 7 by omega) with rfl | rfl | rfl | rfl | rfl | rfl | rfl | rfl <;> simp <;> omega
def sumC (T : TG) (l : Nat) : Nat → Nat
  | 0 => 0
  | s + 1 => sumC T l s + cn T l s
theorem sum8 (f : Nat → Nat → Nat) (g : Nat → Nat) : ∀ D : List Nat, (∀ d ∈ D, f d 0 + f d 1 + f d 2 + f d 3 + f d 4 + f d 5 + f d 6 + f d 7 = g d) → (D.map fun d => f d 0).sum + (D.map fun d => f d 1).sum + (D.map fun d => f d 2).sum + (D.map fun d => f d 3).sum + (D.map fun d => f d 4).sum + (D.map fun d => f d 5).sum + (D.map fun d => f d 6).sum + (D.map fun d => f d 7).sum = (D.map g).sum
  | [], _ => rfl
  | d :: D, h => by
    have ih := sum8 f g D (fun x hx => h x (by simp [hx]))
    have hd := h d (by simp)
    simp only [List.map_cons, List.sum_cons]
    omega
theorem sumC_8 {T : TG} {l : Nat} (hT : TOK T) (hr : isRow T l = true) : sumC T l 8 = lenL T l := by
  have h := sum8 (fun d s => cw T (d - 1) s) (fun d => tWl T (d - 1)) (dg l) (fun d hd => by
    have hd' := row_dig hr hd
    have := count_sum ((List.range (tWl T (d - 1))).map (tSg T (d - 1))) (fun x hx => by
      obtain ⟨i, hi, rfl⟩ := List.mem_map.mp hx
      exact (hT.2.2.1 (d - 1) (by omega)).2.2.1 i (List.mem_range.mp hi))
    simpa [cw] using this)
  unfold lenL
  rw [← h]
  simp only [sumC, cn]
  omega
theorem sumC_le {T : TG} {l : Nat} (hT : TOK T) (hr : isRow T l = true) : ∀ s, sumC T l s ≤ 15 * s
  | 0 => Nat.le_refl _
  | s + 1 => by
    have h1 := sumC_le hT hr s
    have h2 := cn_le (s := s) hT hr
    unfold sumC
    omega
theorem eq_letter {M : MM} {T : TG} {sp dr : Nat} (I : Inv M T sp dr) (x y : Int32) : ∃ r, f_X6_letter M 0 x y = some r ∧ f_X7_letter M 81 x y = some r := by
  obtain ⟨L, hT, hC, hM, hS, hLs, hX, hP, hI0, hI1, hJ⟩ := id I
  have hN := L.1
  obtain ⟨n, hn, x1, x2, x3⟩ := hX
  obtain ⟨k, hk, p1, p2, p3⟩ := hP
  have hst : sp = 23 ∨ sp = 52 := by rcases L.2.1 with ⟨h, -⟩ | ⟨h, -⟩ <;> omega
  obtain ⟨ks0, ks1, ks2, ks3, ks4, ks5, ks6, ks7, ks8⟩ := tkf hst
  obtain ⟨lt0, lt1, lt2, lt3⟩ := ly_t L sp hst

  rcases let_cases T x with h | ⟨j, hj, rfl⟩
  · exact ⟨-1, by simp [f_X6_letter, fI_e, aI_l, aZ_l, aR_l, waI_l, waZ_l, fJ_e, fR_e, wfI_e, wfZ_e, wfJ_e, wfR_e, aI_e, aZ_e, aJ_e, aR_e, waI_e, waZ_e, waJ_e, n_sI, n_sJ, n_sR, gI_sI, gI_sJ, gI_sR, gJ_sI, gJ_sJ, gJ_sR, gR_sI, gR_sJ, gR_sR, Option.bind_some, Option.map_some, kdv_0, kdv_1, kdv_2, kdv_3, kdv_4, kdv_5, kdv_6, kdv_7, kdv_8, kdv_9, kdv_10, kdv_11, kdv_12, kdv_13, kdv_14, kdv_15, kdv_16, kdv_17, kdv_18, kdv_19, kdv_20, kdv_21, kdv_22, kdv_23, kdv_24, kdv_25, kdv_26, kdv_27, kdv_28, kdv_29, kdv_30, kdv_31, kdv_32, kdv_33, kdv_34, kdv_35, kdv_36, kdv_37, kdv_38, kdv_39, kdv_40, kdv_41, kdv_42, kdv_43, kdv_44, kdv_45, kdv_46, kdv_47, kdv_48, kdv_49, kdv_50, kdv_51, kdv_52, kdv_53, kdv_54, kdv_55, kdv_56, kdv_57, kdv_58, kdv_59, kdv_60, kdv_61, kdv_62, kdv_63, kdv_64, kdv_65, kdv_66, kdv_67, kdv_68, kdv_69, kdv_70, kdv_71, kdv_72, kdv_73, kdv_74, kdv_75, kdv_76, kdv_77, kdv_78, kdv_79, kdv_80, kdv_81, kdv_82, kdv_83, kdv_84, kdv_85, kdv_86, kdv_87, kdv_88, kdv_89, kdv_90, kdv_91, kdv_92, lnv_2, lnv_4, lnv_5, lnv_6, lnv_7, lnv_8, lnv_9, lnv_10, lnv_11, lnv_12, lnv_13, lnv_14, lnv_15, lnv_17, lnv_18, lnv_20, lnv_22, lnv_24, lnv_25, lnv_53, lnv_54, lnv_82, lnv_83, lnv_84, lnv_85, lnv_86, lnv_87, lnv_88, lnv_89, lnv_90, lnv_91, lnv_92, hN, (ly_0_0 L), (ly_0_1 L), (ly_0_2 L), (ly_0_3 L), (ly_0_4 L), (ly_0_5 L), (ly_1_0 L), (ly_3_0 L), (ly_3_1 L), (ly_3_2 L), (ly_3_3 L), (ly_3_4 L), (ly_3_5 L), (ly_3_6 L), (ly_3_7 L), (ly_3_8 L), (ly_3_10 L), (ly_3_11 L), (ly_3_12 L), (ly_16_0 L), (ly_18_0 L), (ly_18_1 L), (ly_19_0 L), (ly_21_0 L), (ly_81_1 L), (ly_81_3 L), (ly_81_4 L), (ly_81_5 L), (ly_81_6 L), (ly_81_7 L), (ly_81_8 L), (ly_81_9 L), (ly_81_10 L), (ly_81_11 L), (ly_81_17 L), c_can_no L hS h], by simp [f_X7_letter, hN, kdv_81, m_place_no L hLs h]⟩
  · have hlen := Lt_819 (T := T)
    obtain ⟨hl, hLj⟩ := Lt_at hj
    have hr := isL_row hLj
    have hc := c_can L hS hl
    rw [hLj] at hc
    have hp := m_place_at L hLs hj
    have hnm : ¬ nI j = -9 := nI_nm (by omega) (by decide)
    obtain ⟨t5, t6, t7, t8, t9, t10⟩ := hS.2.2.1 _ hl hr
    obtain ⟨q1, q2, q3, q4⟩ := hLs.2 j hj
    have bj : j < 820 := by omega
    generalize hlv : (Lt T)[j] = l at hl hLj hr hc hp t5 t6 t7 t8 t9 t10 q1 q2 q3 q4
    rcases i_cases y with hy | ⟨i, hi, rfl⟩
    · exact ⟨-1, by simp [f_X6_letter, fI_e, aI_l, aZ_l, aR_l, waI_l, waZ_l, fJ_e, fR_e, wfI_e, wfZ_e, wfJ_e, wfR_e, aI_e, aZ_e, aJ_e, aR_e, waI_e, waZ_e, waJ_e, n_sI, n_sJ, n_sR, gI_sI, gI_sJ, gI_sR, gJ_sI, gJ_sJ, gJ_sR, gR_sI, gR_sJ, gR_sR, Option.bind_some, Option.map_some, kdv_0, kdv_1, kdv_2, kdv_3, kdv_4, kdv_5, kdv_6, kdv_7, kdv_8, kdv_9, kdv_10, kdv_11, kdv_12, kdv_13, kdv_14, kdv_15, kdv_16, kdv_17, kdv_18, kdv_19, kdv_20, kdv_21, kdv_22, kdv_23, kdv_24, kdv_25, kdv_26, kdv_27, kdv_28, kdv_29, kdv_30, kdv_31, kdv_32, kdv_33, kdv_34, kdv_35, kdv_36, kdv_37, kdv_38, kdv_39, kdv_40, kdv_41, kdv_42, kdv_43, kdv_44, kdv_45, kdv_46, kdv_47, kdv_48, kdv_49, kdv_50, kdv_51, kdv_52, kdv_53, kdv_54, kdv_55, kdv_56, kdv_57, kdv_58, kdv_59, kdv_60, kdv_61, kdv_62, kdv_63, kdv_64, kdv_65, kdv_66, kdv_67, kdv_68, kdv_69, kdv_70, kdv_71, kdv_72, kdv_73, kdv_74, kdv_75, kdv_76, kdv_77, kdv_78, kdv_79, kdv_80, kdv_81, kdv_82, kdv_83, kdv_84, kdv_85, kdv_86, kdv_87, kdv_88, kdv_89, kdv_90, kdv_91, kdv_92, lnv_2, lnv_4, lnv_5, lnv_6, lnv_7, lnv_8, lnv_9, lnv_10, lnv_11, lnv_12, lnv_13, lnv_14, lnv_15, lnv_17, lnv_18, lnv_20, lnv_22, lnv_24, lnv_25, lnv_53, lnv_54, lnv_82, lnv_83, lnv_84, lnv_85, lnv_86, lnv_87, lnv_88, lnv_89, lnv_90, lnv_91, lnv_92, hN, (ly_0_0 L), (ly_0_1 L), (ly_0_2 L), (ly_0_3 L), (ly_0_4 L), (ly_0_5 L), (ly_1_0 L), (ly_3_0 L), (ly_3_1 L), (ly_3_2 L), (ly_3_3 L), (ly_3_4 L), (ly_3_5 L), (ly_3_6 L), (ly_3_7 L), (ly_3_8 L), (ly_3_10 L), (ly_3_11 L), (ly_3_12 L), (ly_16_0 L), (ly_18_0 L), (ly_18_1 L), (ly_19_0 L), (ly_21_0 L), (ly_81_1 L), (ly_81_3 L), (ly_81_4 L), (ly_81_5 L), (ly_81_6 L), (ly_81_7 L), (ly_81_8 L), (ly_81_9 L), (ly_81_10 L), (ly_81_11 L), (ly_81_17 L), hc, b2i, g_eq hy], by simp [f_X7_letter, hN, kdv_81, hp, hnm, m_in_neg hy]⟩
    · have hin := m_in (M := M) (j := i) (a := 0) (b := 2) hi (by decide) (by decide)
      rw [show nI 0 = (0 : Int32) from rfl, show nI 2 = (2 : Int32) from rfl] at hin
      by_cases h3 : 3 ≤ i
      · have z0 : ¬ i = 0 := by omega
        have z1 : ¬ i = 1 := by omega
        have z2 : ¬ i = 2 := by omega
        have z3 : ¬ i ≤ 2 := by omega
        exact ⟨-1, by simp [f_X6_letter, fI_e, aI_l, aZ_l, aR_l, waI_l, waZ_l, fJ_e, fR_e, wfI_e, wfZ_e, wfJ_e, wfR_e, aI_e, aZ_e, aJ_e, aR_e, waI_e, waZ_e, waJ_e, n_sI, n_sJ, n_sR, gI_sI, gI_sJ, gI_sR, gJ_sI, gJ_sJ, gJ_sR, gR_sI, gR_sJ, gR_sR, Option.bind_some, Option.map_some, kdv_0, kdv_1, kdv_2, kdv_3, kdv_4, kdv_5, kdv_6, kdv_7, kdv_8, kdv_9, kdv_10, kdv_11, kdv_12, kdv_13, kdv_14, kdv_15, kdv_16, kdv_17, kdv_18, kdv_19, kdv_20, kdv_21, kdv_22, kdv_23, kdv_24, kdv_25, kdv_26, kdv_27, kdv_28, kdv_29, kdv_30, kdv_31, kdv_32, kdv_33, kdv_34, kdv_35, kdv_36, kdv_37, kdv_38, kdv_39, kdv_40, kdv_41, kdv_42, kdv_43, kdv_44, kdv_45, kdv_46, kdv_47, kdv_48, kdv_49, kdv_50, kdv_51, kdv_52, kdv_53, kdv_54, kdv_55, kdv_56, kdv_57, kdv_58, kdv_59, kdv_60, kdv_61, kdv_62, kdv_63, kdv_64, kdv_65, kdv_66, kdv_67, kdv_68, kdv_69, kdv_70, kdv_71, kdv_72, kdv_73, kdv_74, kdv_75, kdv_76, kdv_77, kdv_78, kdv_79, kdv_80, kdv_81, kdv_82, kdv_83, kdv_84, kdv_85, kdv_86, kdv_87, kdv_88, kdv_89, kdv_90, kdv_91, kdv_92, lnv_2, lnv_4, lnv_5, lnv_6, lnv_7, lnv_8, lnv_9, lnv_10, lnv_11, lnv_12, lnv_13, lnv_14, lnv_15, lnv_17, lnv_18, lnv_20, lnv_22, lnv_24, lnv_25, lnv_53, lnv_54, lnv_82, lnv_83, lnv_84, lnv_85, lnv_86, lnv_87, lnv_88, lnv_89, lnv_90, lnv_91, lnv_92, hN, (ly_0_0 L), (ly_0_1 L), (ly_0_2 L), (ly_0_3 L), (ly_0_4 L), (ly_0_5 L), (ly_1_0 L), (ly_3_0 L), (ly_3_1 L), (ly_3_2 L), (ly_3_3 L), (ly_3_4 L), (ly_3_5 L), (ly_3_6 L), (ly_3_7 L), (ly_3_8 L), (ly_3_10 L), (ly_3_11 L), (ly_3_12 L), (ly_16_0 L), (ly_18_0 L), (ly_18_1 L), (ly_19_0 L), (ly_21_0 L), (ly_81_1 L), (ly_81_3 L), (ly_81_4 L), (ly_81_5 L), (ly_81_6 L), (ly_81_7 L), (ly_81_8 L), (ly_81_9 L), (ly_81_10 L), (ly_81_11 L), (ly_81_17 L), hc, b2i, n_eq_l, hi, z0, z1, z2], by simp [f_X7_letter, hN, kdv_81, hp, hnm, hin, z3]⟩
      · have z3 : i ≤ 2 := by omega
        have hmod : f_X7_letter M 81 (nI l) (nI i) = some (if i = 0 then nI (ownL T l) else if i = 1 then nI (othL T l) else nI (lenL T l)) := by
          simp [f_X7_letter, hN, kdv_81, hp, hnm, hin, z3]
          refine lp_run (st := fun s => (nI (sumC T l s), nI s)) 8 (fun s hs => ?_) ?_ FU (show 8 < 4000 by omega)
          · have c1 : ¬ 8 ≤ s := by omega
            have c2 : s < 2147483648 := by omega
            have e1 : nI s + 1 = nI (s + 1) := nI_1 s
            have g1 := (pk4_get (f := cn T l) (fun s _ => cn_le hT hr)).2 s hs
            have hmc := m_countOf (M := M) (N := pk 4 (cn T l)) hs
            rw [g1] at hmc
            simp [z_X7_letter_29, fI_e, aI_l, aZ_l, aR_l, waI_l, waZ_l, fJ_e, fR_e, wfI_e, wfZ_e, wfJ_e, wfR_e, aI_e, aZ_e, aJ_e, aR_e, waI_e, waZ_e, waJ_e, n_sI, n_sJ, n_sR, gI_sI, gI_sJ, gI_sR, gJ_sI, gJ_sJ, gJ_sR, gR_sI, gR_sJ, gR_sR, Option.bind_some, Option.map_some, kdv_0, kdv_1, kdv_2, kdv_3, kdv_4, kdv_5, kdv_6, kdv_7, kdv_8, kdv_9, kdv_10, kdv_11, kdv_12, kdv_13, kdv_14, kdv_15, kdv_16, kdv_17, kdv_18, kdv_19, kdv_20, kdv_21, kdv_22, kdv_23, kdv_24, kdv_25, kdv_26, kdv_27, kdv_28, kdv_29, kdv_30, kdv_31, kdv_32, kdv_33, kdv_34, kdv_35, kdv_36, kdv_37, kdv_38, kdv_39, kdv_40, kdv_41, kdv_42, kdv_43, kdv_44, kdv_45, kdv_46, kdv_47, kdv_48, kdv_49, kdv_50, kdv_51, kdv_52, kdv_53, kdv_54, kdv_55, kdv_56, kdv_57, kdv_58, kdv_59, kdv_60, kdv_61, kdv_62, kdv_63, kdv_64, kdv_65, kdv_66, kdv_67, kdv_68, kdv_69, kdv_70, kdv_71, kdv_72, kdv_73, kdv_74, kdv_75, kdv_76, kdv_77, kdv_78, kdv_79, kdv_80, kdv_81, kdv_82, kdv_83, kdv_84, kdv_85, kdv_86, kdv_87, kdv_88, kdv_89, kdv_90, kdv_91, kdv_92, lnv_2, lnv_4, lnv_5, lnv_6, lnv_7, lnv_8, lnv_9, lnv_10, lnv_11, lnv_12, lnv_13, lnv_14, lnv_15, lnv_17, lnv_18, lnv_20, lnv_22, lnv_24, lnv_25, lnv_53, lnv_54, lnv_82, lnv_83, lnv_84, lnv_85, lnv_86, lnv_87, lnv_88, lnv_89, lnv_90, lnv_91, lnv_92, hN, (ly_81_9 L), l_le_n, c1, c2, bj, q2, hmc, e1, nI_add]
            rfl
          · have c1 : (8 : Int32) ≤ nI 8 := by decide
            rcases (show i = 0 ∨ i = 1 ∨ i = 2 by omega) with rfl | rfl | rfl
            · simp [z_X7_letter_29, fI_e, aI_l, aZ_l, aR_l, waI_l, waZ_l, fJ_e, fR_e, wfI_e, wfZ_e, wfJ_e, wfR_e, aI_e, aZ_e, aJ_e, aR_e, waI_e, waZ_e, waJ_e, n_sI, n_sJ, n_sR, gI_sI, gI_sJ, gI_sR, gJ_sI, gJ_sJ, gJ_sR, gR_sI, gR_sJ, gR_sR, Option.bind_some, Option.map_some, kdv_0, kdv_1, kdv_2, kdv_3, kdv_4, kdv_5, kdv_6, kdv_7, kdv_8, kdv_9, kdv_10, kdv_11, kdv_12, kdv_13, kdv_14, kdv_15, kdv_16, kdv_17, kdv_18, kdv_19, kdv_20, kdv_21, kdv_22, kdv_23, kdv_24, kdv_25, kdv_26, kdv_27, kdv_28, kdv_29, kdv_30, kdv_31, kdv_32, kdv_33, kdv_34, kdv_35, kdv_36, kdv_37, kdv_38, kdv_39, kdv_40, kdv_41, kdv_42, kdv_43, kdv_44, kdv_45, kdv_46, kdv_47, kdv_48, kdv_49, kdv_50, kdv_51, kdv_52, kdv_53, kdv_54, kdv_55, kdv_56, kdv_57, kdv_58, kdv_59, kdv_60, kdv_61, kdv_62, kdv_63, kdv_64, kdv_65, kdv_66, kdv_67, kdv_68, kdv_69, kdv_70, kdv_71, kdv_72, kdv_73, kdv_74, kdv_75, kdv_76, kdv_77, kdv_78, kdv_79, kdv_80, kdv_81, kdv_82, kdv_83, kdv_84, kdv_85, kdv_86, kdv_87, kdv_88, kdv_89, kdv_90, kdv_91, kdv_92, lnv_2, lnv_4, lnv_5, lnv_6, lnv_7, lnv_8, lnv_9, lnv_10, lnv_11, lnv_12, lnv_13, lnv_14, lnv_15, lnv_17, lnv_18, lnv_20, lnv_22, lnv_24, lnv_25, lnv_53, lnv_54, lnv_82, lnv_83, lnv_84, lnv_85, lnv_86, lnv_87, lnv_88, lnv_89, lnv_90, lnv_91, lnv_92, hN, (ly_81_10 L), c1, bj, q3, n_eq_l]
            · simp [z_X7_letter_29, fI_e, aI_l, aZ_l, aR_l, waI_l, waZ_l, fJ_e, fR_e, wfI_e, wfZ_e, wfJ_e, wfR_e, aI_e, aZ_e, aJ_e, aR_e, waI_e, waZ_e, waJ_e, n_sI, n_sJ, n_sR, gI_sI, gI_sJ, gI_sR, gJ_sI, gJ_sJ, gJ_sR, gR_sI, gR_sJ, gR_sR, Option.bind_some, Option.map_some, kdv_0, kdv_1, kdv_2, kdv_3, kdv_4, kdv_5, kdv_6, kdv_7, kdv_8, kdv_9, kdv_10, kdv_11, kdv_12, kdv_13, kdv_14, kdv_15, kdv_16, kdv_17, kdv_18, kdv_19, kdv_20, kdv_21, kdv_22, kdv_23, kdv_24, kdv_25, kdv_26, kdv_27, kdv_28, kdv_29, kdv_30, kdv_31, kdv_32, kdv_33, kdv_34, kdv_35, kdv_36, kdv_37, kdv_38, kdv_39, kdv_40, kdv_41, kdv_42, kdv_43, kdv_44, kdv_45, kdv_46, kdv_47, kdv_48, kdv_49, kdv_50, kdv_51, kdv_52, kdv_53, kdv_54, kdv_55, kdv_56, kdv_57, kdv_58, kdv_59, kdv_60, kdv_61, kdv_62, kdv_63, kdv_64, kdv_65, kdv_66, kdv_67, kdv_68, kdv_69, kdv_70, kdv_71, kdv_72, kdv_73, kdv_74, kdv_75, kdv_76, kdv_77, kdv_78, kdv_79, kdv_80, kdv_81, kdv_82, kdv_83, kdv_84, kdv_85, kdv_86, kdv_87, kdv_88, kdv_89, kdv_90, kdv_91, kdv_92, lnv_2, lnv_4, lnv_5, lnv_6, lnv_7, lnv_8, lnv_9, lnv_10, lnv_11, lnv_12, lnv_13, lnv_14, lnv_15, lnv_17, lnv_18, lnv_20, lnv_22, lnv_24, lnv_25, lnv_53, lnv_54, lnv_82, lnv_83, lnv_84, lnv_85, lnv_86, lnv_87, lnv_88, lnv_89, lnv_90, lnv_91, lnv_92, hN, (ly_81_11 L), c1, bj, q4, n_eq_l]
            · simp [z_X7_letter_29, c1, n_eq_l, sumC_8 hT hr]
        rw [hmod]
        refine ⟨_, ?_, rfl⟩
        rcases (show i = 0 ∨ i = 1 ∨ i = 2 by omega) with rfl | rfl | rfl
        · simp [f_X6_letter, fI_e, aI_l, aZ_l, aR_l, waI_l, waZ_l, fJ_e, fR_e, wfI_e, wfZ_e, wfJ_e, wfR_e, aI_e, aZ_e, aJ_e, aR_e, waI_e, waZ_e, waJ_e, n_sI, n_sJ, n_sR, gI_sI, gI_sJ, gI_sR, gJ_sI, gJ_sJ, gJ_sR, gR_sI, gR_sJ, gR_sR, Option.bind_some, Option.map_some, kdv_0, kdv_1, kdv_2, kdv_3, kdv_4, kdv_5, kdv_6, kdv_7, kdv_8, kdv_9, kdv_10, kdv_11, kdv_12, kdv_13, kdv_14, kdv_15, kdv_16, kdv_17, kdv_18, kdv_19, kdv_20, kdv_21, kdv_22, kdv_23, kdv_24, kdv_25, kdv_26, kdv_27, kdv_28, kdv_29, kdv_30, kdv_31, kdv_32, kdv_33, kdv_34, kdv_35, kdv_36, kdv_37, kdv_38, kdv_39, kdv_40, kdv_41, kdv_42, kdv_43, kdv_44, kdv_45, kdv_46, kdv_47, kdv_48, kdv_49, kdv_50, kdv_51, kdv_52, kdv_53, kdv_54, kdv_55, kdv_56, kdv_57, kdv_58, kdv_59, kdv_60, kdv_61, kdv_62, kdv_63, kdv_64, kdv_65, kdv_66, kdv_67, kdv_68, kdv_69, kdv_70, kdv_71, kdv_72, kdv_73, kdv_74, kdv_75, kdv_76, kdv_77, kdv_78, kdv_79, kdv_80, kdv_81, kdv_82, kdv_83, kdv_84, kdv_85, kdv_86, kdv_87, kdv_88, kdv_89, kdv_90, kdv_91, kdv_92, lnv_2, lnv_4, lnv_5, lnv_6, lnv_7, lnv_8, lnv_9, lnv_10, lnv_11, lnv_12, lnv_13, lnv_14, lnv_15, lnv_17, lnv_18, lnv_20, lnv_22, lnv_24, lnv_25, lnv_53, lnv_54, lnv_82, lnv_83, lnv_84, lnv_85, lnv_86, lnv_87, lnv_88, lnv_89, lnv_90, lnv_91, lnv_92, hN, (ly_0_0 L), (ly_0_1 L), (ly_0_2 L), (ly_0_3 L), (ly_0_4 L), (ly_0_5 L), (ly_1_0 L), (ly_3_0 L), (ly_3_1 L), (ly_3_2 L), (ly_3_3 L), (ly_3_4 L), (ly_3_5 L), (ly_3_6 L), (ly_3_7 L), (ly_3_8 L), (ly_3_10 L), (ly_3_11 L), (ly_3_12 L), (ly_16_0 L), (ly_18_0 L), (ly_18_1 L), (ly_19_0 L), (ly_21_0 L), (ly_81_1 L), (ly_81_3 L), (ly_81_4 L), (ly_81_5 L), (ly_81_6 L), (ly_81_7 L), (ly_81_8 L), (ly_81_9 L), (ly_81_10 L), (ly_81_11 L), (ly_81_17 L), hc, b2i, n_eq_l, hl, t6]
        · simp [f_X6_letter, fI_e, aI_l, aZ_l, aR_l, waI_l, waZ_l, fJ_e, fR_e, wfI_e, wfZ_e, wfJ_e, wfR_e, aI_e, aZ_e, aJ_e, aR_e, waI_e, waZ_e, waJ_e, n_sI, n_sJ, n_sR, gI_sI, gI_sJ, gI_sR, gJ_sI, gJ_sJ, gJ_sR, gR_sI, gR_sJ, gR_sR, Option.bind_some, Option.map_some, kdv_0, kdv_1, kdv_2, kdv_3, kdv_4, kdv_5, kdv_6, kdv_7, kdv_8, kdv_9, kdv_10, kdv_11, kdv_12, kdv_13, kdv_14, kdv_15, kdv_16, kdv_17, kdv_18, kdv_19, kdv_20, kdv_21, kdv_22, kdv_23, kdv_24, kdv_25, kdv_26, kdv_27, kdv_28, kdv_29, kdv_30, kdv_31, kdv_32, kdv_33, kdv_34, kdv_35, kdv_36, kdv_37, kdv_38, kdv_39, kdv_40, kdv_41, kdv_42, kdv_43, kdv_44, kdv_45, kdv_46, kdv_47, kdv_48, kdv_49, kdv_50, kdv_51, kdv_52, kdv_53, kdv_54, kdv_55, kdv_56, kdv_57, kdv_58, kdv_59, kdv_60, kdv_61, kdv_62, kdv_63, kdv_64, kdv_65, kdv_66, kdv_67, kdv_68, kdv_69, kdv_70, kdv_71, kdv_72, kdv_73, kdv_74, kdv_75, kdv_76, kdv_77, kdv_78, kdv_79, kdv_80, kdv_81, kdv_82, kdv_83, kdv_84, kdv_85, kdv_86, kdv_87, kdv_88, kdv_89, kdv_90, kdv_91, kdv_92, lnv_2, lnv_4, lnv_5, lnv_6, lnv_7, lnv_8, lnv_9, lnv_10, lnv_11, lnv_12, lnv_13, lnv_14, lnv_15, lnv_17, lnv_18, lnv_20, lnv_22, lnv_24, lnv_25, lnv_53, lnv_54, lnv_82, lnv_83, lnv_84, lnv_85, lnv_86, lnv_87, lnv_88, lnv_89, lnv_90, lnv_91, lnv_92, hN, (ly_0_0 L), (ly_0_1 L), (ly_0_2 L), (ly_0_3 L), (ly_0_4 L), (ly_0_5 L), (ly_1_0 L), (ly_3_0 L), (ly_3_1 L), (ly_3_2 L), (ly_3_3 L), (ly_3_4 L), (ly_3_5 L), (ly_3_6 L), (ly_3_7 L), (ly_3_8 L), (ly_3_10 L), (ly_3_11 L), (ly_3_12 L), (ly_16_0 L), (ly_18_0 L), (ly_18_1 L), (ly_19_0 L), (ly_21_0 L), (ly_81_1 L), (ly_81_3 L), (ly_81_4 L), (ly_81_5 L), (ly_81_6 L), (ly_81_7 L), (ly_81_8 L), (ly_81_9 L), (ly_81_10 L), (ly_81_11 L), (ly_81_17 L), hc, b2i, n_eq_l, hl, t7]
        · simp [f_X6_letter, fI_e, aI_l, aZ_l, aR_l, waI_l, waZ_l, fJ_e, fR_e, wfI_e, wfZ_e, wfJ_e, wfR_e, aI_e, aZ_e, aJ_e, aR_e, waI_e, waZ_e, waJ_e, n_sI, n_sJ, n_sR, gI_sI, gI_sJ, gI_sR, gJ_sI, gJ_sJ, gJ_sR, gR_sI, gR_sJ, gR_sR, Option.bind_some, Option.map_some, kdv_0, kdv_1, kdv_2, kdv_3, kdv_4, kdv_5, kdv_6, kdv_7, kdv_8, kdv_9, kdv_10, kdv_11, kdv_12, kdv_13, kdv_14, kdv_15, kdv_16, kdv_17, kdv_18, kdv_19, kdv_20, kdv_21, kdv_22, kdv_23, kdv_24, kdv_25, kdv_26, kdv_27, kdv_28, kdv_29, kdv_30, kdv_31, kdv_32, kdv_33, kdv_34, kdv_35, kdv_36, kdv_37, kdv_38, kdv_39, kdv_40, kdv_41, kdv_42, kdv_43, kdv_44, kdv_45, kdv_46, kdv_47, kdv_48, kdv_49, kdv_50, kdv_51, kdv_52, kdv_53, kdv_54, kdv_55, kdv_56, kdv_57, kdv_58, kdv_59, kdv_60, kdv_61, kdv_62, kdv_63, kdv_64, kdv_65, kdv_66, kdv_67, kdv_68, kdv_69, kdv_70, kdv_71, kdv_72, kdv_73, kdv_74, kdv_75, kdv_76, kdv_77, kdv_78, kdv_79, kdv_80, kdv_81, kdv_82, kdv_83, kdv_84, kdv_85, kdv_86, kdv_87, kdv_88, kdv_89, kdv_90, kdv_91, kdv_92, lnv_2, lnv_4, lnv_5, lnv_6, lnv_7, lnv_8, lnv_9, lnv_10, lnv_11, lnv_12, lnv_13, lnv_14, lnv_15, lnv_17, lnv_18, lnv_20, lnv_22, lnv_24, lnv_25, lnv_53, lnv_54, lnv_82, lnv_83, lnv_84, lnv_85, lnv_86, lnv_87, lnv_88, lnv_89, lnv_90, lnv_91, lnv_92, hN, (ly_0_0 L), (ly_0_1 L), (ly_0_2 L), (ly_0_3 L), (ly_0_4 L), (ly_0_5 L), (ly_1_0 L), (ly_3_0 L), (ly_3_1 L), (ly_3_2 L), (ly_3_3 L), (ly_3_4 L), (ly_3_5 L), (ly_3_6 L), (ly_3_7 L), (ly_3_8 L), (ly_3_10 L), (ly_3_11 L), (ly_3_12 L), (ly_16_0 L), (ly_18_0 L), (ly_18_1 L), (ly_19_0 L), (ly_21_0 L), (ly_81_1 L), (ly_81_3 L), (ly_81_4 L), (ly_81_5 L), (ly_81_6 L), (ly_81_7 L), (ly_81_8 L), (ly_81_9 L), (ly_81_10 L), (ly_81_11 L), (ly_81_17 L), hc, b2i, n_eq_l, hl, t8]
theorem eq_has {M : MM} {T : TG} {sp dr : Nat} (I : Inv M T sp dr) (x y : Int32) : ∃ r, f_X6_has M 0 x y = some r ∧ f_X7_has M 81 x y = some r := by
  obtain ⟨L, hT, hC, hM, hS, hLs, hX, hP, hI0, hI1, hJ⟩ := id I
  have hN := L.1
  obtain ⟨n, hn, x1, x2, x3⟩ := hX
  obtain ⟨k, hk, p1, p2, p3⟩ := hP
  have hst : sp = 23 ∨ sp = 52 := by rcases L.2.1 with ⟨h, -⟩ | ⟨h, -⟩ <;> omega
  obtain ⟨ks0, ks1, ks2, ks3, ks4, ks5, ks6, ks7, ks8⟩ := tkf hst
  obtain ⟨lt0, lt1, lt2, lt3⟩ := ly_t L sp hst

  rcases let_cases T x with h | ⟨j, hj, rfl⟩
  · exact ⟨-1, by simp [f_X6_has, fI_e, aI_l, aZ_l, aR_l, waI_l, waZ_l, fJ_e, fR_e, wfI_e, wfZ_e, wfJ_e, wfR_e, aI_e, aZ_e, aJ_e, aR_e, waI_e, waZ_e, waJ_e, n_sI, n_sJ, n_sR, gI_sI, gI_sJ, gI_sR, gJ_sI, gJ_sJ, gJ_sR, gR_sI, gR_sJ, gR_sR, Option.bind_some, Option.map_some, kdv_0, kdv_1, kdv_2, kdv_3, kdv_4, kdv_5, kdv_6, kdv_7, kdv_8, kdv_9, kdv_10, kdv_11, kdv_12, kdv_13, kdv_14, kdv_15, kdv_16, kdv_17, kdv_18, kdv_19, kdv_20, kdv_21, kdv_22, kdv_23, kdv_24, kdv_25, kdv_26, kdv_27, kdv_28, kdv_29, kdv_30, kdv_31, kdv_32, kdv_33, kdv_34, kdv_35, kdv_36, kdv_37, kdv_38, kdv_39, kdv_40, kdv_41, kdv_42, kdv_43, kdv_44, kdv_45, kdv_46, kdv_47, kdv_48, kdv_49, kdv_50, kdv_51, kdv_52, kdv_53, kdv_54, kdv_55, kdv_56, kdv_57, kdv_58, kdv_59, kdv_60, kdv_61, kdv_62, kdv_63, kdv_64, kdv_65, kdv_66, kdv_67, kdv_68, kdv_69, kdv_70, kdv_71, kdv_72, kdv_73, kdv_74, kdv_75, kdv_76, kdv_77, kdv_78, kdv_79, kdv_80, kdv_81, kdv_82, kdv_83, kdv_84, kdv_85, kdv_86, kdv_87, kdv_88, kdv_89, kdv_90, kdv_91, kdv_92, lnv_2, lnv_4, lnv_5, lnv_6, lnv_7, lnv_8, lnv_9, lnv_10, lnv_11, lnv_12, lnv_13, lnv_14, lnv_15, lnv_17, lnv_18, lnv_20, lnv_22, lnv_24, lnv_25, lnv_53, lnv_54, lnv_82, lnv_83, lnv_84, lnv_85, lnv_86, lnv_87, lnv_88, lnv_89, lnv_90, lnv_91, lnv_92, hN, (ly_0_0 L), (ly_0_1 L), (ly_0_2 L), (ly_0_3 L), (ly_0_4 L), (ly_0_5 L), (ly_1_0 L), (ly_3_0 L), (ly_3_1 L), (ly_3_2 L), (ly_3_3 L), (ly_3_4 L), (ly_3_5 L), (ly_3_6 L), (ly_3_7 L), (ly_3_8 L), (ly_3_10 L), (ly_3_11 L), (ly_3_12 L), (ly_16_0 L), (ly_18_0 L), (ly_18_1 L), (ly_19_0 L), (ly_21_0 L), (ly_81_1 L), (ly_81_3 L), (ly_81_4 L), (ly_81_5 L), (ly_81_6 L), (ly_81_7 L), (ly_81_8 L), (ly_81_9 L), (ly_81_10 L), (ly_81_11 L), (ly_81_17 L), c_can_no L hS h], by simp [f_X7_has, hN, kdv_81, m_place_no L hLs h, j_X7_has_22]⟩
  · have hlen := Lt_819 (T := T)
    obtain ⟨hl, hLj⟩ := Lt_at hj
    have hr := isL_row hLj
    have hc := c_can L hS hl
    rw [hLj] at hc
    have hp := m_place_at L hLs hj
    have hnm : ¬ nI j = -9 := nI_nm (by omega) (by decide)
    obtain ⟨q1, q2, q3, q4⟩ := hLs.2 j hj
    have bj : j < 820 := by omega
    generalize hlv : (Lt T)[j] = l at hl hLj hr hc hp q1 q2 q3 q4
    rcases i_cases y with hy | ⟨i, hi, rfl⟩
    · exact ⟨-1, by simp [f_X6_has, fI_e, aI_l, aZ_l, aR_l, waI_l, waZ_l, fJ_e, fR_e, wfI_e, wfZ_e, wfJ_e, wfR_e, aI_e, aZ_e, aJ_e, aR_e, waI_e, waZ_e, waJ_e, n_sI, n_sJ, n_sR, gI_sI, gI_sJ, gI_sR, gJ_sI, gJ_sJ, gJ_sR, gR_sI, gR_sJ, gR_sR, Option.bind_some, Option.map_some, kdv_0, kdv_1, kdv_2, kdv_3, kdv_4, kdv_5, kdv_6, kdv_7, kdv_8, kdv_9, kdv_10, kdv_11, kdv_12, kdv_13, kdv_14, kdv_15, kdv_16, kdv_17, kdv_18, kdv_19, kdv_20, kdv_21, kdv_22, kdv_23, kdv_24, kdv_25, kdv_26, kdv_27, kdv_28, kdv_29, kdv_30, kdv_31, kdv_32, kdv_33, kdv_34, kdv_35, kdv_36, kdv_37, kdv_38, kdv_39, kdv_40, kdv_41, kdv_42, kdv_43, kdv_44, kdv_45, kdv_46, kdv_47, kdv_48, kdv_49, kdv_50, kdv_51, kdv_52, kdv_53, kdv_54, kdv_55, kdv_56, kdv_57, kdv_58, kdv_59, kdv_60, kdv_61, kdv_62, kdv_63, kdv_64, kdv_65, kdv_66, kdv_67, kdv_68, kdv_69, kdv_70, kdv_71, kdv_72, kdv_73, kdv_74, kdv_75, kdv_76, kdv_77, kdv_78, kdv_79, kdv_80, kdv_81, kdv_82, kdv_83, kdv_84, kdv_85, kdv_86, kdv_87, kdv_88, kdv_89, kdv_90, kdv_91, kdv_92, lnv_2, lnv_4, lnv_5, lnv_6, lnv_7, lnv_8, lnv_9, lnv_10, lnv_11, lnv_12, lnv_13, lnv_14, lnv_15, lnv_17, lnv_18, lnv_20, lnv_22, lnv_24, lnv_25, lnv_53, lnv_54, lnv_82, lnv_83, lnv_84, lnv_85, lnv_86, lnv_87, lnv_88, lnv_89, lnv_90, lnv_91, lnv_92, hN, (ly_0_0 L), (ly_0_1 L), (ly_0_2 L), (ly_0_3 L), (ly_0_4 L), (ly_0_5 L), (ly_1_0 L), (ly_3_0 L), (ly_3_1 L), (ly_3_2 L), (ly_3_3 L), (ly_3_4 L), (ly_3_5 L), (ly_3_6 L), (ly_3_7 L), (ly_3_8 L), (ly_3_10 L), (ly_3_11 L), (ly_3_12 L), (ly_16_0 L), (ly_18_0 L), (ly_18_1 L), (ly_19_0 L), (ly_21_0 L), (ly_81_1 L), (ly_81_3 L), (ly_81_4 L), (ly_81_5 L), (ly_81_6 L), (ly_81_7 L), (ly_81_8 L), (ly_81_9 L), (ly_81_10 L), (ly_81_11 L), (ly_81_17 L), hc, b2i, hy], by simp [f_X7_has, hN, kdv_81, hp, hnm, m_in_neg hy, j_X7_has_22]⟩
    · have hin := m_in (M := M) (j := i) (a := 0) (b := 7) hi (by decide) (by decide)
      rw [show nI 0 = (0 : Int32) from rfl, show nI 7 = (7 : Int32) from rfl] at hin
      have h0 : ¬ nI i < 0 := nI_pos hi
      by_cases h8 : i < 8
      · have z7 : i ≤ 7 := by omega
        have g1 := (pk4_get (f := cn T l) (fun s _ => cn_le hT hr)).2 i h8
        have hmc := m_countOf (M := M) (N := pk 4 (cn T l)) h8
        rw [g1] at hmc
        exact ⟨nI (cn T l i), by simp [f_X6_has, fI_e, aI_l, aZ_l, aR_l, waI_l, waZ_l, fJ_e, fR_e, wfI_e, wfZ_e, wfJ_e, wfR_e, aI_e, aZ_e, aJ_e, aR_e, waI_e, waZ_e, waJ_e, n_sI, n_sJ, n_sR, gI_sI, gI_sJ, gI_sR, gJ_sI, gJ_sJ, gJ_sR, gR_sI, gR_sJ, gR_sR, Option.bind_some, Option.map_some, kdv_0, kdv_1, kdv_2, kdv_3, kdv_4, kdv_5, kdv_6, kdv_7, kdv_8, kdv_9, kdv_10, kdv_11, kdv_12, kdv_13, kdv_14, kdv_15, kdv_16, kdv_17, kdv_18, kdv_19, kdv_20, kdv_21, kdv_22, kdv_23, kdv_24, kdv_25, kdv_26, kdv_27, kdv_28, kdv_29, kdv_30, kdv_31, kdv_32, kdv_33, kdv_34, kdv_35, kdv_36, kdv_37, kdv_38, kdv_39, kdv_40, kdv_41, kdv_42, kdv_43, kdv_44, kdv_45, kdv_46, kdv_47, kdv_48, kdv_49, kdv_50, kdv_51, kdv_52, kdv_53, kdv_54, kdv_55, kdv_56, kdv_57, kdv_58, kdv_59, kdv_60, kdv_61, kdv_62, kdv_63, kdv_64, kdv_65, kdv_66, kdv_67, kdv_68, kdv_69, kdv_70, kdv_71, kdv_72, kdv_73, kdv_74, kdv_75, kdv_76, kdv_77, kdv_78, kdv_79, kdv_80, kdv_81, kdv_82, kdv_83, kdv_84, kdv_85, kdv_86, kdv_87, kdv_88, kdv_89, kdv_90, kdv_91, kdv_92, lnv_2, lnv_4, lnv_5, lnv_6, lnv_7, lnv_8, lnv_9, lnv_10, lnv_11, lnv_12, lnv_13, lnv_14, lnv_15, lnv_17, lnv_18, lnv_20, lnv_22, lnv_24, lnv_25, lnv_53, lnv_54, lnv_82, lnv_83, lnv_84, lnv_85, lnv_86, lnv_87, lnv_88, lnv_89, lnv_90, lnv_91, lnv_92, hN, (ly_0_0 L), (ly_0_1 L), (ly_0_2 L), (ly_0_3 L), (ly_0_4 L), (ly_0_5 L), (ly_1_0 L), (ly_3_0 L), (ly_3_1 L), (ly_3_2 L), (ly_3_3 L), (ly_3_4 L), (ly_3_5 L), (ly_3_6 L), (ly_3_7 L), (ly_3_8 L), (ly_3_10 L), (ly_3_11 L), (ly_3_12 L), (ly_16_0 L), (ly_18_0 L), (ly_18_1 L), (ly_19_0 L), (ly_21_0 L), (ly_81_1 L), (ly_81_3 L), (ly_81_4 L), (ly_81_5 L), (ly_81_6 L), (ly_81_7 L), (ly_81_8 L), (ly_81_9 L), (ly_81_10 L), (ly_81_11 L), (ly_81_17 L), hc, b2i, h0, n_lt_l, hi, h8, c_countOf L hT hS hl hr h8], by simp [f_X7_has, fI_e, aI_l, aZ_l, aR_l, waI_l, waZ_l, fJ_e, fR_e, wfI_e, wfZ_e, wfJ_e, wfR_e, aI_e, aZ_e, aJ_e, aR_e, waI_e, waZ_e, waJ_e, n_sI, n_sJ, n_sR, gI_sI, gI_sJ, gI_sR, gJ_sI, gJ_sJ, gJ_sR, gR_sI, gR_sJ, gR_sR, Option.bind_some, Option.map_some, kdv_0, kdv_1, kdv_2, kdv_3, kdv_4, kdv_5, kdv_6, kdv_7, kdv_8, kdv_9, kdv_10, kdv_11, kdv_12, kdv_13, kdv_14, kdv_15, kdv_16, kdv_17, kdv_18, kdv_19, kdv_20, kdv_21, kdv_22, kdv_23, kdv_24, kdv_25, kdv_26, kdv_27, kdv_28, kdv_29, kdv_30, kdv_31, kdv_32, kdv_33, kdv_34, kdv_35, kdv_36, kdv_37, kdv_38, kdv_39, kdv_40, kdv_41, kdv_42, kdv_43, kdv_44, kdv_45, kdv_46, kdv_47, kdv_48, kdv_49, kdv_50, kdv_51, kdv_52, kdv_53, kdv_54, kdv_55, kdv_56, kdv_57, kdv_58, kdv_59, kdv_60, kdv_61, kdv_62, kdv_63, kdv_64, kdv_65, kdv_66, kdv_67, kdv_68, kdv_69, kdv_70, kdv_71, kdv_72, kdv_73, kdv_74, kdv_75, kdv_76, kdv_77, kdv_78, kdv_79, kdv_80, kdv_81, kdv_82, kdv_83, kdv_84, kdv_85, kdv_86, kdv_87, kdv_88, kdv_89, kdv_90, kdv_91, kdv_92, lnv_2, lnv_4, lnv_5, lnv_6, lnv_7, lnv_8, lnv_9, lnv_10, lnv_11, lnv_12, lnv_13, lnv_14, lnv_15, lnv_17, lnv_18, lnv_20, lnv_22, lnv_24, lnv_25, lnv_53, lnv_54, lnv_82, lnv_83, lnv_84, lnv_85, lnv_86, lnv_87, lnv_88, lnv_89, lnv_90, lnv_91, lnv_92, hN, (ly_0_0 L), (ly_0_1 L), (ly_0_2 L), (ly_0_3 L), (ly_0_4 L), (ly_0_5 L), (ly_1_0 L), (ly_3_0 L), (ly_3_1 L), (ly_3_2 L), (ly_3_3 L), (ly_3_4 L), (ly_3_5 L), (ly_3_6 L), (ly_3_7 L), (ly_3_8 L), (ly_3_10 L), (ly_3_11 L), (ly_3_12 L), (ly_16_0 L), (ly_18_0 L), (ly_18_1 L), (ly_19_0 L), (ly_21_0 L), (ly_81_1 L), (ly_81_3 L), (ly_81_4 L), (ly_81_5 L), (ly_81_6 L), (ly_81_7 L), (ly_81_8 L), (ly_81_9 L), (ly_81_10 L), (ly_81_11 L), (ly_81_17 L), hp, hnm, hin, z7, bj, q2, hmc]⟩
      · have z7 : ¬ i ≤ 7 := by omega
        exact ⟨-1, by simp [f_X6_has, fI_e, aI_l, aZ_l, aR_l, waI_l, waZ_l, fJ_e, fR_e, wfI_e, wfZ_e, wfJ_e, wfR_e, aI_e, aZ_e, aJ_e, aR_e, waI_e, waZ_e, waJ_e, n_sI, n_sJ, n_sR, gI_sI, gI_sJ, gI_sR, gJ_sI, gJ_sJ, gJ_sR, gR_sI, gR_sJ, gR_sR, Option.bind_some, Option.map_some, kdv_0, kdv_1, kdv_2, kdv_3, kdv_4, kdv_5, kdv_6, kdv_7, kdv_8, kdv_9, kdv_10, kdv_11, kdv_12, kdv_13, kdv_14, kdv_15, kdv_16, kdv_17, kdv_18, kdv_19, kdv_20, kdv_21, kdv_22, kdv_23, kdv_24, kdv_25, kdv_26, kdv_27, kdv_28, kdv_29, kdv_30, kdv_31, kdv_32, kdv_33, kdv_34, kdv_35, kdv_36, kdv_37, kdv_38, kdv_39, kdv_40, kdv_41, kdv_42, kdv_43, kdv_44, kdv_45, kdv_46, kdv_47, kdv_48, kdv_49, kdv_50, kdv_51, kdv_52, kdv_53, kdv_54, kdv_55, kdv_56, kdv_57, kdv_58, kdv_59, kdv_60, kdv_61, kdv_62, kdv_63, kdv_64, kdv_65, kdv_66, kdv_67, kdv_68, kdv_69, kdv_70, kdv_71, kdv_72, kdv_73, kdv_74, kdv_75, kdv_76, kdv_77, kdv_78, kdv_79, kdv_80, kdv_81, kdv_82, kdv_83, kdv_84, kdv_85, kdv_86, kdv_87, kdv_88, kdv_89, kdv_90, kdv_91, kdv_92, lnv_2, lnv_4, lnv_5, lnv_6, lnv_7, lnv_8, lnv_9, lnv_10, lnv_11, lnv_12, lnv_13, lnv_14, lnv_15, lnv_17, lnv_18, lnv_20, lnv_22, lnv_24, lnv_25, lnv_53, lnv_54, lnv_82, lnv_83, lnv_84, lnv_85, lnv_86, lnv_87, lnv_88, lnv_89, lnv_90, lnv_91, lnv_92, hN, (ly_0_0 L), (ly_0_1 L), (ly_0_2 L), (ly_0_3 L), (ly_0_4 L), (ly_0_5 L), (ly_1_0 L), (ly_3_0 L), (ly_3_1 L), (ly_3_2 L), (ly_3_3 L), (ly_3_4 L), (ly_3_5 L), (ly_3_6 L), (ly_3_7 L), (ly_3_8 L), (ly_3_10 L), (ly_3_11 L), (ly_3_12 L), (ly_16_0 L), (ly_18_0 L), (ly_18_1 L), (ly_19_0 L), (ly_21_0 L), (ly_81_1 L), (ly_81_3 L), (ly_81_4 L), (ly_81_5 L), (ly_81_6 L), (ly_81_7 L), (ly_81_8 L), (ly_81_9 L), (ly_81_10 L), (ly_81_11 L), (ly_81_17 L), hc, b2i, h0, n_lt_l, hi, h8], by simp [f_X7_has, hN, kdv_81, hp, hnm, hin, z7, j_X7_has_22]⟩
theorem lcmp_0 {x y : Int64} : lg_cmp x y = 0 ↔ x = y := by
  unfold lg_cmp
  by_cases h1 : x > y
  · rw [if_pos h1]
    refine ⟨fun e => absurd e (by decide), fun e => ?_⟩
    subst e
    exact absurd (Int64.lt_iff_toInt_lt.mp h1) (by omega)
  · rw [if_neg h1]
    by_cases h2 : x = y
    · simp [h2]
    · rw [if_neg h2]
      exact ⟨fun e => absurd e (by decide), fun e => absurd e h2⟩
theorem pk8_inj {T : TG} {l m : Nat} (hT : TOK T) (rl : isRow T l = true) (rm : isRow T m = true) : (lN (pk 8 (cn T m)) = lN (pk 8 (cn T l))) ↔ dd T l m = 0 := by
  obtain ⟨p1, p2⟩ := pk8_get (f := cn T l) (fun s _ => cn_le hT rl)
  obtain ⟨q1, q2⟩ := pk8_get (f := cn T m) (fun s _ => cn_le hT rm)
  constructor
  · intro e
    have e2 : pk 8 (cn T m) = pk 8 (cn T l) := by
      have := congrArg (fun x : Int64 => x.toBitVec.toNat) e
      simp only [wb_tn p1, wb_tn q1] at this
      exact this
    exact dd_0.mpr (fun s hs => by rw [← p2 s hs, ← q2 s hs, e2])
  · intro e
    have h := dd_0.mp e
    rw [pk_ext (fun s hs => (h s hs).symm)]
theorem c_isAns0 {M : MM} {l m : Int32} {P Q : Int64} {D : Nat} (hN : M.1 = 93) (r0 : fR M 3 1 0 = some 4) (r5 : fR M 3 1 5 = some 9) (hv : aZ M 4 m = some 1) (al : aJ M 9 l = some P) (am : aJ M 9 m = some Q) (hml : ¬ m = l) (hq : (Q = P) ↔ D = 0) : f_X1_isAnswer M 3 l m = some (if D = 0 then 1 else 0) := by
  have g : 3 < M.1 ∧ kd 3 = 1 := by rw [hN]; decide
  unfold f_X1_isAnswer
  rw [if_pos g, r0, Option.bind_some, hv, Option.bind_some, if_neg (by decide), if_neg hml, r5, Option.bind_some, am, Option.bind_some, Option.bind_some, al, Option.bind_some]
  by_cases h : D = 0
  · rw [if_pos (lcmp_0.mpr (hq.mpr h)), if_pos h]
  · rw [if_neg (fun e => h (hq.mp (lcmp_0.mp e))), if_neg h]
theorem c_isAns {M : MM} {T : TG} {sp dr : Nat} (L : LAY M sp dr) (hT : TOK T) (hS : SAY M T) {l m : Nat} (hl : l < 1000) (hm : m < 1000) (hL : isL T l = true) : f_X1_isAnswer M 3 (nI l) (nI m) = some (b2i (near T l 0 m)) := by
  have hN := L.1
  have hv := hS.2.1 m hm
  have r0 : fR M 3 1 0 = some 4 := by rw [fR_e hN (by decide) rfl]; exact ly_3_0 L
  have r5 : fR M 3 1 5 = some 9 := by rw [fR_e hN (by decide) rfl]; exact ly_3_5 L
  have am0 := aZ_e (p := 4) (i := m) hN (by decide) rfl (by rw [lnv_4]; omega)
  rw [hv] at am0
  have g : 3 < M.1 ∧ kd 3 = 1 := by rw [hN]; decide
  cases hb : isL T m with
  | false =>
    rw [hb] at am0
    unfold f_X1_isAnswer
    rw [if_pos g, r0, Option.bind_some, am0, Option.bind_some]
    simp [near, hb, b2i]
  | true =>
    rw [hb] at am0
    obtain ⟨-, -, -, -, vl, -⟩ := hS.2.2.1 l hl (isL_row hL)
    obtain ⟨-, -, -, -, vm, -⟩ := hS.2.2.1 m hm (isL_row hb)
    have al := aJ_e (p := 9) (i := l) hN (by decide) rfl (by rw [lnv_9]; omega)
    have am := aJ_e (p := 9) (i := m) hN (by decide) rfl (by rw [lnv_9]; omega)
    rw [vl] at al
    rw [vm] at am
    by_cases h1 : m = l
    · unfold f_X1_isAnswer
      rw [if_pos g, r0, Option.bind_some, am0, Option.bind_some, if_neg (by decide), if_pos (by rw [h1])]
      simp [near, b2i, h1]
    · have hml : ¬ nI m = nI l := fun e => h1 ((nI_eq (by omega) (by omega)).mp e)
      rw [c_isAns0 hN r0 r5 am0 al am hml (pk8_inj hT (isL_row hL) (isL_row hb))]
      generalize hD : dd T l m = D
      simp [near, b2i, hb, h1, hD]
