/-! PURE: the figures of a letter's number, on both sides -/
theorem dg_vals {l : Nat} (h : l < 1000) : (l < 10 ∧ dg l = [l]) ∨ (10 ≤ l ∧ l < 100 ∧ dg l = [l / 10, l % 10]) ∨ (100 ≤ l ∧ dg l = [l / 100, l / 10 % 10, l % 10]) := by
  by_cases h1 : l < 10
  · exact Or.inl ⟨h1, by simp [dg, h1]⟩
  · by_cases h2 : l < 100
    · exact Or.inr (Or.inl ⟨by omega, h2, by simp [dg, h1, h2]⟩)
    · exact Or.inr (Or.inr ⟨by omega, by simp [dg, h1, h2]⟩)
theorem m_length {M : MM} {l : Nat} (h : l < 1000) : f_X7_length M (nI l) = some (nI (dg l).length) := by
  have hb : l < 2147483648 := by omega
  rcases dg_vals h with ⟨h1, e⟩ | ⟨h1, h2, e⟩ | ⟨h1, e⟩
  · have a : ¬ 10 ≤ l := by omega
    simp [f_X7_length, l_le_n, hb, a, e]
    rfl
  · have b : ¬ 100 ≤ l := by omega
    simp [f_X7_length, l_le_n, hb, h1, b, e]
    rfl
  · have a : 10 ≤ l := by omega
    simp [f_X7_length, l_le_n, hb, h1, a, e]
    rfl
theorem div_pow {l j : Nat} : l / 10 ^ j / 10 = l / 10 ^ (j + 1) := by
  rw [Nat.pow_succ, Nat.div_div_eq_div_mul]
theorem dg_at {l i : Nat} (h : l < 1000) (hi : i < (dg l).length) : (dg l)[i] = l / 10 ^ ((dg l).length - 1 - i) % 10 := by
  rcases dg_vals h with ⟨h1, e⟩ | ⟨h1, h2, e⟩ | ⟨h1, e⟩
  · have hl : (dg l).length = 1 := by rw [e]; rfl
    have : i = 0 := by omega
    subst this
    simp only [e, hl]
    simp
    omega
  · have hl : (dg l).length = 2 := by rw [e]; rfl
    rcases (show i = 0 ∨ i = 1 by omega) with rfl | rfl
    · simp only [e, hl]
      simp
      omega
    · simp only [e, hl]
      simp
  · have hl : (dg l).length = 3 := by rw [e]; rfl
    rcases (show i = 0 ∨ i = 1 ∨ i = 2 by omega) with rfl | rfl | rfl
    · simp only [e, hl]
      simp
      omega
    · simp only [e, hl]
      simp
    · simp only [e, hl]
      simp
theorem m_wordOf {M : MM} {l i : Nat} (h : l < 1000) (hi : i < (dg l).length) : f_X7_wordOf M (nI l) (nI i) = some (nI (dg l)[i] - 1) := by
  have hlen := dg_len (l := l)
  unfold f_X7_wordOf
  rw [m_length h, Option.bind_some, show nI (dg l).length - 1 = nI ((dg l).length - 1) from pk_sub (a := (dg l).length) (b := 1) (by omega)]
  generalize hn : (dg l).length - 1 = n
  rw [show ((nI l, nI n) : Int32 × Int32) = (nI (l / 10 ^ 0), nI (n - 0)) by simp]
  refine lp_run (st := fun j => (nI (l / 10 ^ j), nI (n - j))) (n - i) (fun j hj => ?_) ?_ FU (show n - i < 4000 by omega)
  · have c : ¬ nI (n - j) ≤ nI i := fun e => by have := (nI_leI (by omega) (by omega)).mp e; omega
    have hb : l / 10 ^ j < 2 ^ 31 := Nat.lt_of_le_of_lt (Nat.div_le_self _ _) (by omega)
    have e1 : nI (l / 10 ^ j) / 10 = nI (l / 10 ^ (j + 1)) := by
      rw [← div_pow]
      exact pk_div (d := 10) hb (by decide) (by decide)
    have e2 : nI (n - j) + (-1) = nI (n - (j + 1)) := by
      rw [show n - j = (n - (j + 1)) + 1 by omega]
      exact pk_m1 _
    simp only [z_X7_wordOf_9, if_neg c, e1, e2]
  · have c : nI (n - (n - i)) ≤ nI i := (nI_leI (by omega) (by omega)).mpr (by omega)
    have hb : l / 10 ^ (n - i) < 2 ^ 31 := Nat.lt_of_le_of_lt (Nat.div_le_self _ _) (by omega)
    have e1 : nI (l / 10 ^ (n - i)) - nI (l / 10 ^ (n - i)) / 10 * 10 = nI (l / 10 ^ (n - i) % 10) := pk_rem (d := 10) hb (by decide) (by decide)
    simp only [z_X7_wordOf_9, if_pos c, e1, dg_at h hi, hn]
/-! how often a word was written -/
def cd (l w : Nat) : Nat := (dg l).count (w + 1)
theorem cd_le {l w : Nat} : cd l w ≤ 3 := Nat.le_trans (List.count_le_length) dg_len
/-- the figures from the last one on, as the class reads them -/
def cdL (l w : Nat) : Nat → Nat
  | 0 => 0
  | j + 1 => cdL l w j + if l / 10 ^ j % 10 = w + 1 then 1 else 0
theorem cdL_3 {l w : Nat} (h : l < 1000) : cdL l w 3 = cd l w := by
  unfold cd
  rcases dg_vals h with ⟨h1, e⟩ | ⟨h1, h2, e⟩ | ⟨h1, e⟩
  · have a1 : l / 10 = 0 := by omega
    have a2 : l / 100 = 0 := by omega
    have a3 : l % 10 = l := by omega
    simp [e, cdL, List.count_cons, a1, a2, a3]
  · have a2 : l / 100 = 0 := by omega
    have a3 : l / 10 % 10 = l / 10 := by omega
    simp [e, cdL, List.count_cons, a2, a3]
  · have a3 : l / 100 % 10 = l / 100 := by omega
    simp [e, cdL, List.count_cons, a3]
theorem cdL_le {l w : Nat} : ∀ j, cdL l w j ≤ j
  | 0 => Nat.le_refl _
  | j + 1 => by
    have := cdL_le (l := l) (w := w) j
    unfold cdL
    split <;> omega
/-- the sum over the rows that were written -/
def wrS (r : Nat → Nat) (w : Nat) : Nat → Nat
  | 0 => 0
  | i + 1 => wrS r w i + cd (r i) w
theorem wrS_le {r : Nat → Nat} {w : Nat} : ∀ i, wrS r w i ≤ 3 * i
  | 0 => Nat.le_refl _
  | i + 1 => by
    have h1 := wrS_le (r := r) (w := w) i
    have h2 := cd_le (l := r i) (w := w)
    unfold wrS
    omega
theorem c_times {M : MM} {p k w : Nat} {r : Nat → Nat} (hN : M.1 = 93) (hp : p + 1 < 93) (kp : kd p = 0) (kp1 : kd (p + 1) = 8) (lp1 : ln (p + 1) = 12) (rp : gR M p 0 = some (p + 1)) (hk : k ≤ 12) (hm : gI M p 1 = nI k) (hr : ∀ i, i < k → r i < 1000 ∧ gI M (p + 1) i = nI (r i)) (hw : w < 9) : f_X0_timesOf M p (nI w) = some (nI (wrS r w k)) := by
  have hp0 : p < 93 := by omega
  simp [f_X0_timesOf, hN, hp0, kp]
  refine lp_run (st := fun i => (nI (wrS r w i), nI i)) k (fun i hi => ?_) ?_ FU (show k < 4000 by omega)
  · have h1 : ¬ nI k ≤ nI i := fun e => by have := (nI_leI (by omega) (by omega)).mp e; omega
    have h2 : i < 12 := by omega
    obtain ⟨hl, hv⟩ := hr i hi
    simp [z_X0_timesOf_4, fI_e, aI_l, aZ_l, aR_l, waI_l, waZ_l, fJ_e, fR_e, wfI_e, wfZ_e, wfJ_e, wfR_e, aI_e, aZ_e, aJ_e, aR_e, waI_e, waZ_e, waJ_e, n_sI, n_sJ, n_sR, gI_sI, gI_sJ, gI_sR, gJ_sI, gJ_sJ, gJ_sR, gR_sI, gR_sJ, gR_sR, Option.bind_some, Option.map_some, kdv_0, kdv_1, kdv_2, kdv_3, kdv_4, kdv_5, kdv_6, kdv_7, kdv_8, kdv_9, kdv_10, kdv_11, kdv_12, kdv_13, kdv_14, kdv_15, kdv_16, kdv_17, kdv_18, kdv_19, kdv_20, kdv_21, kdv_22, kdv_23, kdv_24, kdv_25, kdv_26, kdv_27, kdv_28, kdv_29, kdv_30, kdv_31, kdv_32, kdv_33, kdv_34, kdv_35, kdv_36, kdv_37, kdv_38, kdv_39, kdv_40, kdv_41, kdv_42, kdv_43, kdv_44, kdv_45, kdv_46, kdv_47, kdv_48, kdv_49, kdv_50, kdv_51, kdv_52, kdv_53, kdv_54, kdv_55, kdv_56, kdv_57, kdv_58, kdv_59, kdv_60, kdv_61, kdv_62, kdv_63, kdv_64, kdv_65, kdv_66, kdv_67, kdv_68, kdv_69, kdv_70, kdv_71, kdv_72, kdv_73, kdv_74, kdv_75, kdv_76, kdv_77, kdv_78, kdv_79, kdv_80, kdv_81, kdv_82, kdv_83, kdv_84, kdv_85, kdv_86, kdv_87, kdv_88, kdv_89, kdv_90, kdv_91, kdv_92, lnv_2, lnv_4, lnv_5, lnv_6, lnv_7, lnv_8, lnv_9, lnv_10, lnv_11, lnv_12, lnv_13, lnv_14, lnv_15, lnv_17, lnv_18, lnv_20, lnv_22, lnv_24, lnv_25, lnv_53, lnv_54, lnv_82, lnv_83, lnv_84, lnv_85, lnv_86, lnv_87, lnv_88, lnv_89, lnv_90, lnv_91, lnv_92, hN, hp, hp0, kp, kp1, lp1, rp, hm, h1, h2, hv]
    rw [show ((nI (wrS r w i), nI (r i), 0) : Int32 × Int32 × Int32) = (nI (wrS r w i + cdL (r i) w 0), nI (r i / 10 ^ 0), nI 0) by simp [cdL]; rfl]
    refine lp_run (st := fun j => (nI (wrS r w i + cdL (r i) w j), nI (r i / 10 ^ j), nI j)) 3 (fun j hj => ?_) ?_ FU (show 3 < 4000 by omega)
    · have c : ¬ 3 ≤ j := by omega
      have c2 : j < 2147483648 := by omega
      have hb : r i / 10 ^ j < 2 ^ 31 := Nat.lt_of_le_of_lt (Nat.div_le_self _ _) (by omega)
      have e1 : nI (r i / 10 ^ j) / 10 = nI (r i / 10 ^ (j + 1)) := by
        rw [← div_pow]
        exact pk_div (d := 10) hb (by decide) (by decide)
      have e3 : nI (r i / 10 ^ j) - nI (r i / 10 ^ (j + 1)) * 10 = nI (r i / 10 ^ j % 10) := by
        rw [← e1]
        exact pk_rem (d := 10) hb (by decide) (by decide)
      have e4 : nI w + 1 = nI (w + 1) := nI_1 w
      have e5 : nI j + 1 = nI (j + 1) := nI_1 j
      have hc : (nI (r i / 10 ^ j % 10) = nI (w + 1)) = (r i / 10 ^ j % 10 = w + 1) := nn_eq (by omega) (by omega)
      have hcd := cdL_le (l := r i) (w := w) j
      by_cases hq : r i / 10 ^ j % 10 = w + 1
      · have e6 : nI (wrS r w i + cdL (r i) w j) + 1 = nI (wrS r w i + cdL (r i) w (j + 1)) := by
          rw [nI_1]
          simp [cdL, hq, Nat.add_assoc]
        simp only [z_X0_timesOf_23, l_le_n c2 (show 3 < 2147483648 by decide), c, if_false, e3, e4, hc, hq, if_true, j_X0_timesOf_43, e1, e5, e6]
      · have e6 : nI (wrS r w i + cdL (r i) w j) = nI (wrS r w i + cdL (r i) w (j + 1)) := by simp [cdL, hq]
        simp only [z_X0_timesOf_23, l_le_n c2 (show 3 < 2147483648 by decide), c, if_false, e3, e4, hc, hq, j_X0_timesOf_43, e1, e5, e6]
    · have c : (3 : Int32) ≤ nI 3 := by decide
      have e5 : nI i + 1 = nI (i + 1) := nI_1 i
      simp only [z_X0_timesOf_23, if_pos c, cdL_3 hl, e5]
      rfl
  · simp [z_X0_timesOf_4, fI_e, aI_l, aZ_l, aR_l, waI_l, waZ_l, fJ_e, fR_e, wfI_e, wfZ_e, wfJ_e, wfR_e, aI_e, aZ_e, aJ_e, aR_e, waI_e, waZ_e, waJ_e, n_sI, n_sJ, n_sR, gI_sI, gI_sJ, gI_sR, gJ_sI, gJ_sJ, gJ_sR, gR_sI, gR_sJ, gR_sR, Option.bind_some, Option.map_some, kdv_0, kdv_1, kdv_2, kdv_3, kdv_4, kdv_5, kdv_6, kdv_7, kdv_8, kdv_9, kdv_10, kdv_11, kdv_12, kdv_13, kdv_14, kdv_15, kdv_16, kdv_17, kdv_18, kdv_19, kdv_20, kdv_21, kdv_22, kdv_23, kdv_24, kdv_25, kdv_26, kdv_27, kdv_28, kdv_29, kdv_30, kdv_31, kdv_32, kdv_33, kdv_34, kdv_35, kdv_36, kdv_37, kdv_38, kdv_39, kdv_40, kdv_41, kdv_42, kdv_43, kdv_44, kdv_45, kdv_46, kdv_47, kdv_48, kdv_49, kdv_50, kdv_51, kdv_52, kdv_53, kdv_54, kdv_55, kdv_56, kdv_57, kdv_58, kdv_59, kdv_60, kdv_61, kdv_62, kdv_63, kdv_64, kdv_65, kdv_66, kdv_67, kdv_68, kdv_69, kdv_70, kdv_71, kdv_72, kdv_73, kdv_74, kdv_75, kdv_76, kdv_77, kdv_78, kdv_79, kdv_80, kdv_81, kdv_82, kdv_83, kdv_84, kdv_85, kdv_86, kdv_87, kdv_88, kdv_89, kdv_90, kdv_91, kdv_92, lnv_2, lnv_4, lnv_5, lnv_6, lnv_7, lnv_8, lnv_9, lnv_10, lnv_11, lnv_12, lnv_13, lnv_14, lnv_15, lnv_17, lnv_18, lnv_20, lnv_22, lnv_24, lnv_25, lnv_53, lnv_54, lnv_82, lnv_83, lnv_84, lnv_85, lnv_86, lnv_87, lnv_88, lnv_89, lnv_90, lnv_91, lnv_92, hN, hp0, kp, hm]
theorem m_written {M : MM} {k w : Nat} {r : Nat → Nat} {sp dr : Nat} (L : LAY M sp dr) (hk : k ≤ 12) (hm : gI M 85 0 = nI k) (hr : ∀ i, i < k → r i < 1000 ∧ (∀ d ∈ dg (r i), 1 ≤ d) ∧ gI M 85 (1 + i) = nI (r i)) (hw : w < 9) : f_X7_written M 81 (nI w) = some (nI (wrS r w k)) := by
  have hN := L.1
  simp [f_X7_written, hN, kdv_81]
  refine lp_run (st := fun i => (nI (wrS r w i), nI i)) k (fun i hi => ?_) ?_ FU (show k < 4000 by omega)
  · have h1 : ¬ nI k ≤ nI i := fun e => by have := (nI_leI (by omega) (by omega)).mp e; omega
    have h2 : i + 1 < 13 := by omega
    obtain ⟨hl, hd, hv⟩ := hr i hi
    rw [Nat.add_comm] at hv
    have e0 : nI i + 1 = nI (i + 1) := nI_1 i
    simp [z_X7_written_4, fI_e, aI_l, aZ_l, aR_l, waI_l, waZ_l, fJ_e, fR_e, wfI_e, wfZ_e, wfJ_e, wfR_e, aI_e, aZ_e, aJ_e, aR_e, waI_e, waZ_e, waJ_e, n_sI, n_sJ, n_sR, gI_sI, gI_sJ, gI_sR, gJ_sI, gJ_sJ, gJ_sR, gR_sI, gR_sJ, gR_sR, Option.bind_some, Option.map_some, kdv_0, kdv_1, kdv_2, kdv_3, kdv_4, kdv_5, kdv_6, kdv_7, kdv_8, kdv_9, kdv_10, kdv_11, kdv_12, kdv_13, kdv_14, kdv_15, kdv_16, kdv_17, kdv_18, kdv_19, kdv_20, kdv_21, kdv_22, kdv_23, kdv_24, kdv_25, kdv_26, kdv_27, kdv_28, kdv_29, kdv_30, kdv_31, kdv_32, kdv_33, kdv_34, kdv_35, kdv_36, kdv_37, kdv_38, kdv_39, kdv_40, kdv_41, kdv_42, kdv_43, kdv_44, kdv_45, kdv_46, kdv_47, kdv_48, kdv_49, kdv_50, kdv_51, kdv_52, kdv_53, kdv_54, kdv_55, kdv_56, kdv_57, kdv_58, kdv_59, kdv_60, kdv_61, kdv_62, kdv_63, kdv_64, kdv_65, kdv_66, kdv_67, kdv_68, kdv_69, kdv_70, kdv_71, kdv_72, kdv_73, kdv_74, kdv_75, kdv_76, kdv_77, kdv_78, kdv_79, kdv_80, kdv_81, kdv_82, kdv_83, kdv_84, kdv_85, kdv_86, kdv_87, kdv_88, kdv_89, kdv_90, kdv_91, kdv_92, lnv_2, lnv_4, lnv_5, lnv_6, lnv_7, lnv_8, lnv_9, lnv_10, lnv_11, lnv_12, lnv_13, lnv_14, lnv_15, lnv_17, lnv_18, lnv_20, lnv_22, lnv_24, lnv_25, lnv_53, lnv_54, lnv_82, lnv_83, lnv_84, lnv_85, lnv_86, lnv_87, lnv_88, lnv_89, lnv_90, lnv_91, lnv_92, hN, (ly_0_0 L), (ly_0_1 L), (ly_0_2 L), (ly_0_3 L), (ly_0_4 L), (ly_0_5 L), (ly_1_0 L), (ly_3_0 L), (ly_3_1 L), (ly_3_2 L), (ly_3_3 L), (ly_3_4 L), (ly_3_5 L), (ly_3_6 L), (ly_3_7 L), (ly_3_8 L), (ly_3_10 L), (ly_3_11 L), (ly_3_12 L), (ly_16_0 L), (ly_18_0 L), (ly_18_1 L), (ly_19_0 L), (ly_21_0 L), (ly_81_1 L), (ly_81_3 L), (ly_81_4 L), (ly_81_5 L), (ly_81_6 L), (ly_81_7 L), (ly_81_8 L), (ly_81_9 L), (ly_81_10 L), (ly_81_11 L), (ly_81_17 L), hm, h1, h2, hv, e0]
    refine lp_run (st := fun j => (nI (wrS r w i + ((dg (r i)).take j).count (w + 1)), nI j)) (dg (r i)).length (fun j hj => ?_) ?_ FU (show (dg (r i)).length < 4000 by have := dg_len (l := r i); omega)
    · have hdl := dg_len (l := r i)
      have c : ¬ nI (dg (r i)).length ≤ nI j := fun e => by have := (nI_leI (by omega) (by omega)).mp e; omega
      have e5 : nI j + 1 = nI (j + 1) := nI_1 j
      have hdj := dg_lt hl _ (List.getElem_mem hj)
      have hd1 := hd _ (List.getElem_mem hj)
      have e7 : nI (dg (r i))[j] - 1 = nI ((dg (r i))[j] - 1) := pk_sub hd1
      have hc : (nI ((dg (r i))[j] - 1) = nI w) = ((dg (r i))[j] - 1 = w) := nn_eq (by omega) (by omega)
      have et : ((dg (r i)).take (j + 1)).count (w + 1) = ((dg (r i)).take j).count (w + 1) + if (dg (r i))[j] = w + 1 then 1 else 0 := by
        rw [take_next hj, List.count_append]
        simp [List.count_cons]
      simp only [z_X7_written_27, m_length hl, Option.bind_some, if_neg c, m_wordOf hl hj, e7, hc, j_X7_written_54]
      by_cases hq : (dg (r i))[j] = w + 1
      · rw [if_pos (by omega), et, if_pos hq, ← Nat.add_assoc, nI_1, e5]
      · rw [if_neg (by omega), et, if_neg hq, e5]
        simp only [Nat.add_zero, Int32.add_zero]
    · have c : nI (dg (r i)).length ≤ nI (dg (r i)).length := Int32.le_refl _
      simp only [z_X7_written_27, m_length hl, Option.bind_some, if_pos c, List.take_length, e0]
      rfl
  · simp [z_X7_written_4, fI_e, aI_l, aZ_l, aR_l, waI_l, waZ_l, fJ_e, fR_e, wfI_e, wfZ_e, wfJ_e, wfR_e, aI_e, aZ_e, aJ_e, aR_e, waI_e, waZ_e, waJ_e, n_sI, n_sJ, n_sR, gI_sI, gI_sJ, gI_sR, gJ_sI, gJ_sJ, gJ_sR, gR_sI, gR_sJ, gR_sR, Option.bind_some, Option.map_some, kdv_0, kdv_1, kdv_2, kdv_3, kdv_4, kdv_5, kdv_6, kdv_7, kdv_8, kdv_9, kdv_10, kdv_11, kdv_12, kdv_13, kdv_14, kdv_15, kdv_16, kdv_17, kdv_18, kdv_19, kdv_20, kdv_21, kdv_22, kdv_23, kdv_24, kdv_25, kdv_26, kdv_27, kdv_28, kdv_29, kdv_30, kdv_31, kdv_32, kdv_33, kdv_34, kdv_35, kdv_36, kdv_37, kdv_38, kdv_39, kdv_40, kdv_41, kdv_42, kdv_43, kdv_44, kdv_45, kdv_46, kdv_47, kdv_48, kdv_49, kdv_50, kdv_51, kdv_52, kdv_53, kdv_54, kdv_55, kdv_56, kdv_57, kdv_58, kdv_59, kdv_60, kdv_61, kdv_62, kdv_63, kdv_64, kdv_65, kdv_66, kdv_67, kdv_68, kdv_69, kdv_70, kdv_71, kdv_72, kdv_73, kdv_74, kdv_75, kdv_76, kdv_77, kdv_78, kdv_79, kdv_80, kdv_81, kdv_82, kdv_83, kdv_84, kdv_85, kdv_86, kdv_87, kdv_88, kdv_89, kdv_90, kdv_91, kdv_92, lnv_2, lnv_4, lnv_5, lnv_6, lnv_7, lnv_8, lnv_9, lnv_10, lnv_11, lnv_12, lnv_13, lnv_14, lnv_15, lnv_17, lnv_18, lnv_20, lnv_22, lnv_24, lnv_25, lnv_53, lnv_54, lnv_82, lnv_83, lnv_84, lnv_85, lnv_86, lnv_87, lnv_88, lnv_89, lnv_90, lnv_91, lnv_92, hN, (ly_0_0 L), (ly_0_1 L), (ly_0_2 L), (ly_0_3 L), (ly_0_4 L), (ly_0_5 L), (ly_1_0 L), (ly_3_0 L), (ly_3_1 L), (ly_3_2 L), (ly_3_3 L), (ly_3_4 L), (ly_3_5 L), (ly_3_6 L), (ly_3_7 L), (ly_3_8 L), (ly_3_10 L), (ly_3_11 L), (ly_3_12 L), (ly_16_0 L), (ly_18_0 L), (ly_18_1 L), (ly_19_0 L), (ly_21_0 L), (ly_81_1 L), (ly_81_3 L), (ly_81_4 L), (ly_81_5 L), (ly_81_6 L), (ly_81_7 L), (ly_81_8 L), (ly_81_9 L), (ly_81_10 L), (ly_81_11 L), (ly_81_17 L), hm]
