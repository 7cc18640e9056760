theorem wb_smd {k : Nat} (hk : k < 64) : ((lN k).toBitVec.smod 64).toNat = k := by
  rw [wb_tb, wb_sm k hk, BitVec.toNat_ofNat, Nat.mod_eq_of_lt (by omega)]
theorem sar_byte {n k : Nat} (hk : k + 8 ≤ 64) : (lN n >>> lN k) &&& 255 = lN (n / 2 ^ k % 256) := by
  apply wb_inj
  rw [Int64.toBitVec_and, Int64.toBitVec_shiftRight]
  apply BitVec.eq_of_getLsbD_eq
  intro i hi
  show ((lN n).toBitVec.sshiftRight ((lN k).toBitVec.smod 64).toNat &&& (255 : Int64).toBitVec).getLsbD i = _
  rw [wb_smd (by omega), BitVec.getLsbD_and, BitVec.getLsbD_sshiftRight, wb_tb, wb_tb]
  have h255 : (255 : Int64).toBitVec.getLsbD i = decide (i < 8) := by
    show (255#64).getLsbD i = _
    rw [show (255#64) = BitVec.ofNat 64 (2 ^ 8 - 1) from rfl, BitVec.getLsbD_ofNat, Nat.testBit_two_pow_sub_one]
    simp [hi]
  rw [h255, BitVec.getLsbD_ofNat, BitVec.getLsbD_ofNat, show (256 : Nat) = 2 ^ 8 from rfl, Nat.testBit_mod_two_pow, Nat.testBit_div_two_pow]
  by_cases h8 : i < 8
  · have : k + i < 64 := by omega
    simp [h8, hi, this, Nat.add_comm]
  · simp [h8]
theorem ty_c {N i : Nat} (hN : N < 2 ^ 64) (hi : i < 8) : (((lN N).toUInt64 >>> (((8 : Int32) * nI i).toInt64.toUInt64 &&& Int64.toUInt64 63)).toInt64).toInt32 &&& 255 = nI (N / 2 ^ (8 * i) % 256) := by
  have e : (8 : Int32) * nI i = nI (8 * i) := nI_mul 8 i
  rw [e, wb_shr hN (by omega), lN_i, show (255 : Int32) = nI 255 from rfl, nx_and]
  congr 1
  exact Nat.and_two_pow_sub_one_eq_mod _ 8
theorem ty_m {N i : Nat} (hi : i < 8) : ((lN N >>> (((8 : Int32) * nI i).toInt64 &&& 63)) &&& 255).toInt32 = nI (N / 2 ^ (8 * i) % 256) := by
  have e : (8 : Int32) * nI i = nI (8 * i) := nI_mul 8 i
  rw [e, wb_c _ (by omega), sar_byte (by omega), lN_i]
/-- bytes that come to a text: the row p, its length in the field q of c -/
def tyG (M : MM) (p c q len : Nat) (f : Nat → Int32) : Nat → MM
  | 0 => M
  | j + 1 => sI (sI (tyG M p c q len f j) p (len + j) (f j)) c q (nI (len + j + 1))
theorem tyG_ag {M : MM} {p c q len : Nat} {f : Nat → Int32} : ∀ j, Ag M (tyG M p c q len f j) [p, c]
  | 0 => Ag.rf
  | j + 1 => ((tyG_ag j).sI (by simp)).sI (by simp)
theorem tyG_c {M : MM} {p c q len : Nat} {f : Nat → Int32} (h : gI M c q = nI len) (j : Nat) : gI (tyG M p c q len f j) c q = nI (len + j) := by
  cases j with
  | zero => exact h
  | succ j => show gI (sI _ _ _ _) _ _ = _; rw [gI_sI, if_pos ⟨rfl, rfl⟩]; rfl
theorem tyG_q {M : MM} {p c q len q' : Nat} {f : Nat → Int32} (hp : p ≠ c) (hq : q' ≠ q) : ∀ j, gI (tyG M p c q len f j) c q' = gI M c q'
  | 0 => rfl
  | j + 1 => by
    show gI (sI (sI _ _ _ _) _ _ _) _ _ = _
    rw [gI_sI, if_neg (fun e => hq e.2), gI_sI, if_neg (fun e => hp e.1.symm), tyG_q hp hq j]
theorem tyG_p {M : MM} {p c q len i : Nat} {f : Nat → Int32} (hp : p ≠ c) : ∀ j, gI (tyG M p c q len f j) p i = if len ≤ i ∧ i < len + j then f (i - len) else gI M p i
  | 0 => by rw [if_neg (by omega)]; rfl
  | j + 1 => by
    show gI (sI (sI _ _ _ _) _ _ _) _ _ = _
    rw [gI_sI, if_neg (fun e => hp e.1), gI_sI, tyG_p hp j]
    by_cases h1 : i = len + j
    · rw [if_pos ⟨rfl, h1⟩, if_pos (by omega), h1, Nat.add_sub_cancel_left]
    · rw [if_neg (fun e => h1 e.2)]
      by_cases h2 : len ≤ i ∧ i < len + j
      · rw [if_pos h2, if_pos (by omega)]
      · rw [if_neg h2, if_neg (by omega)]
theorem tyGJ {M : MM} {p c q len a b : Nat} {f : Nat → Int32} : ∀ j, gJ (tyG M p c q len f j) a b = gJ M a b
  | 0 => rfl
  | j + 1 => tyGJ (M := M) j
def dnI (n j : Nat) : Int32 := if j < n then nI (n - 1 - j) else -1
theorem dnI_s {n j : Nat} (h : j < n) : dnI n j + (-1) = dnI n (j + 1) := by
  unfold dnI
  rw [if_pos h]
  by_cases h2 : j + 1 < n
  · rw [if_pos h2, show n - 1 - j = (n - 1 - (j + 1)) + 1 by omega]
    exact pk_m1 _
  · rw [if_neg h2, show n - 1 - j = 0 by omega]
    decide
theorem c_add {M : MM} {sp dr len : Nat} (L : LAY M sp dr) (h : gI M 1 1 = nI len) (hl : len < 200) (x : Int32) : f_X3_add M 1 x = some (sI (sI M 2 len x) 1 1 (nI (len + 1))) := by
  have hN := L.1
  have b1 : len < 2147483648 := by omega
  have c1 : ¬ 200 ≤ len := by omega
  have e : nI len + 1 = nI (len + 1) := nI_1 len
  simp [f_X3_add, fI_e, aI_l, aZ_l, aR_l, waI_l, waZ_l, fJ_e, fR_e, wfI_e, wfZ_e, wfJ_e, wfR_e, aI_e, aZ_e, aJ_e, aR_e, waI_e, waZ_e, waJ_e, n_sI, n_sJ, n_sR, gI_sI, gI_sJ, gI_sR, gJ_sI, gJ_sJ, gJ_sR, gR_sI, gR_sJ, gR_sR, Option.bind_some, Option.map_some, kdv_0, kdv_1, kdv_2, kdv_3, kdv_4, kdv_5, kdv_6, kdv_7, kdv_8, kdv_9, kdv_10, kdv_11, kdv_12, kdv_13, kdv_14, kdv_15, kdv_16, kdv_17, kdv_18, kdv_19, kdv_20, kdv_21, kdv_22, kdv_23, kdv_24, kdv_25, kdv_26, kdv_27, kdv_28, kdv_29, kdv_30, kdv_31, kdv_32, kdv_33, kdv_34, kdv_35, kdv_36, kdv_37, kdv_38, kdv_39, kdv_40, kdv_41, kdv_42, kdv_43, kdv_44, kdv_45, kdv_46, kdv_47, kdv_48, kdv_49, kdv_50, kdv_51, kdv_52, kdv_53, kdv_54, kdv_55, kdv_56, kdv_57, kdv_58, kdv_59, kdv_60, kdv_61, kdv_62, kdv_63, kdv_64, kdv_65, kdv_66, kdv_67, kdv_68, kdv_69, kdv_70, kdv_71, kdv_72, kdv_73, kdv_74, kdv_75, kdv_76, kdv_77, kdv_78, kdv_79, kdv_80, kdv_81, kdv_82, kdv_83, kdv_84, kdv_85, kdv_86, kdv_87, kdv_88, kdv_89, kdv_90, kdv_91, kdv_92, lnv_2, lnv_4, lnv_5, lnv_6, lnv_7, lnv_8, lnv_9, lnv_10, lnv_11, lnv_12, lnv_13, lnv_14, lnv_15, lnv_17, lnv_18, lnv_20, lnv_22, lnv_24, lnv_25, lnv_53, lnv_54, lnv_82, lnv_83, lnv_84, lnv_85, lnv_86, lnv_87, lnv_88, lnv_89, lnv_90, lnv_91, lnv_92, hN, (ly_0_0 L), (ly_0_1 L), (ly_0_2 L), (ly_0_3 L), (ly_0_4 L), (ly_0_5 L), (ly_1_0 L), (ly_3_0 L), (ly_3_1 L), (ly_3_2 L), (ly_3_3 L), (ly_3_4 L), (ly_3_5 L), (ly_3_6 L), (ly_3_7 L), (ly_3_8 L), (ly_3_10 L), (ly_3_11 L), (ly_3_12 L), (ly_16_0 L), (ly_18_0 L), (ly_18_1 L), (ly_19_0 L), (ly_21_0 L), (ly_81_1 L), (ly_81_3 L), (ly_81_4 L), (ly_81_5 L), (ly_81_6 L), (ly_81_7 L), (ly_81_8 L), (ly_81_9 L), (ly_81_10 L), (ly_81_11 L), (ly_81_17 L), h, l_le_n, b1, c1, hl, e]
theorem eq_type {M : MM} {T : TG} {sp dr : Nat} (I : Inv M T sp dr) (v : Int64) (y : Int32) : ∃ r M1 M2, f_X6_type M 0 v y = some (r, M1) ∧ M1.1 = M.1 ∧ f_X7_type M1 81 v y = some (r, M2) ∧ M2.1 = M1.1 ∧ Inv M2 T sp dr := by
  obtain ⟨L, hT, hC, hM, hS, hLs, hX, hP, hI0, hI1, hJ⟩ := id I
  have hN := L.1
  obtain ⟨n, hn, x1, x2, x3⟩ := hX
  obtain ⟨k, hk, p1, p2, p3⟩ := hP
  have hst : sp = 23 ∨ sp = 52 := by rcases L.2.1 with ⟨h, -⟩ | ⟨h, -⟩ <;> omega
  obtain ⟨ks0, ks1, ks2, ks3, ks4, ks5, ks6, ks7, ks8⟩ := tkf hst
  obtain ⟨lt0, lt1, lt2, lt3⟩ := ly_t L sp hst

  have hP' : PST M T := ⟨k, hk, p1, p2, p3⟩
  obtain ⟨N, hNN, rfl⟩ := wb_of v
  rcases i_cases y with hy | ⟨m, hm, rfl⟩
  · have c1 : y < 1 := neg_lt hy 1 (by decide)
    exact ⟨-1, M, M, by simp [f_X6_type, hN, kdv_0, c1], rfl, by simp [f_X7_type, hN, kdv_81, f_X7_in, c1], rfl, I⟩
  · have hin := m_in (M := M) (j := m) (a := 1) (b := 8) hm (by decide) (by decide)
    rw [show nI 1 = (1 : Int32) from rfl, show nI 8 = (8 : Int32) from rfl] at hin
    by_cases h18 : 1 ≤ m ∧ m ≤ 8
    · have c1 : ¬ m < 1 := by omega
      have c8 : m ≤ 8 := h18.2
      have e1 : nI n + nI m = nI (n + m) := nI_add n m
      by_cases hf : n + m ≤ 200
      · have c2 : n + m < 2147483648 := by omega
        have f : Nat → Int32 := fun j => nI (N / 2 ^ (8 * (m - 1 - j)) % 256)
        generalize hfd : (fun j => nI (N / 2 ^ (8 * (m - 1 - j)) % 256) : Nat → Int32) = f
        have hM1 : f_X6_type M 0 (lN N) (nI m) = some (nI (n + m), tyG M 2 1 1 n f m) := by
          simp [f_X6_type, fI_e, aI_l, aZ_l, aR_l, waI_l, waZ_l, fJ_e, fR_e, wfI_e, wfZ_e, wfJ_e, wfR_e, aI_e, aZ_e, aJ_e, aR_e, waI_e, waZ_e, waJ_e, n_sI, n_sJ, n_sR, gI_sI, gI_sJ, gI_sR, gJ_sI, gJ_sJ, gJ_sR, gR_sI, gR_sJ, gR_sR, Option.bind_some, Option.map_some, kdv_0, kdv_1, kdv_2, kdv_3, kdv_4, kdv_5, kdv_6, kdv_7, kdv_8, kdv_9, kdv_10, kdv_11, kdv_12, kdv_13, kdv_14, kdv_15, kdv_16, kdv_17, kdv_18, kdv_19, kdv_20, kdv_21, kdv_22, kdv_23, kdv_24, kdv_25, kdv_26, kdv_27, kdv_28, kdv_29, kdv_30, kdv_31, kdv_32, kdv_33, kdv_34, kdv_35, kdv_36, kdv_37, kdv_38, kdv_39, kdv_40, kdv_41, kdv_42, kdv_43, kdv_44, kdv_45, kdv_46, kdv_47, kdv_48, kdv_49, kdv_50, kdv_51, kdv_52, kdv_53, kdv_54, kdv_55, kdv_56, kdv_57, kdv_58, kdv_59, kdv_60, kdv_61, kdv_62, kdv_63, kdv_64, kdv_65, kdv_66, kdv_67, kdv_68, kdv_69, kdv_70, kdv_71, kdv_72, kdv_73, kdv_74, kdv_75, kdv_76, kdv_77, kdv_78, kdv_79, kdv_80, kdv_81, kdv_82, kdv_83, kdv_84, kdv_85, kdv_86, kdv_87, kdv_88, kdv_89, kdv_90, kdv_91, kdv_92, lnv_2, lnv_4, lnv_5, lnv_6, lnv_7, lnv_8, lnv_9, lnv_10, lnv_11, lnv_12, lnv_13, lnv_14, lnv_15, lnv_17, lnv_18, lnv_20, lnv_22, lnv_24, lnv_25, lnv_53, lnv_54, lnv_82, lnv_83, lnv_84, lnv_85, lnv_86, lnv_87, lnv_88, lnv_89, lnv_90, lnv_91, lnv_92, hN, (ly_0_0 L), (ly_0_1 L), (ly_0_2 L), (ly_0_3 L), (ly_0_4 L), (ly_0_5 L), (ly_1_0 L), (ly_3_0 L), (ly_3_1 L), (ly_3_2 L), (ly_3_3 L), (ly_3_4 L), (ly_3_5 L), (ly_3_6 L), (ly_3_7 L), (ly_3_8 L), (ly_3_10 L), (ly_3_11 L), (ly_3_12 L), (ly_16_0 L), (ly_18_0 L), (ly_18_1 L), (ly_19_0 L), (ly_21_0 L), (ly_81_1 L), (ly_81_3 L), (ly_81_4 L), (ly_81_5 L), (ly_81_6 L), (ly_81_7 L), (ly_81_8 L), (ly_81_9 L), (ly_81_10 L), (ly_81_11 L), (ly_81_17 L), n_lt_l, n_le_l, hm, c1, c8, x1, e1, c2, hf]
          rw [show ((nI m - 1, M) : Int32 × MM) = (dnI m 0, tyG M 2 1 1 n f 0) by simp [dnI, show 0 < m by omega, tyG]; exact pk_sub (a := m) (b := 1) (by omega)]
          refine lp_run (st := fun j => (dnI m j, tyG M 2 1 1 n f j)) m (fun j hj => ?_) ?_ FU (show m < 4000 by omega)
          · have Lj := L.ag (tyG_ag (p := 2) (c := 1) (q := 1) (len := n) (f := f) j)
            have hNj := Lj.1
            have hcj := tyG_c (p := 2) (f := f) x1 j
            have ha := c_add Lj hcj (by omega) (f j)
            have hs := dnI_s hj
            have hfj : f j = nI (N / 2 ^ (8 * (m - 1 - j)) % 256) := by rw [← hfd]
            have hty := ty_c (i := m - 1 - j) hNN (by omega)
            have hd : dnI m j = nI (m - 1 - j) := by simp [dnI, hj]
            have hng : ¬ nI (m - 1 - j) < 0 := nI_pos (by omega)
            have hnn : (tyG M 2 1 1 n f j).1 = M.1 := (tyG_ag j).1
            rw [hd] at hs
            simp only [z_X6_type_36, hd, if_neg hng, fR_e hNj (show 0 < 93 by decide) (show (kd 0 == 6) = true from rfl), ly_0_0 Lj, Option.bind_some, hty, ← hfj, ha, hs]
            rw [if_pos (by rfl)]
            rfl
          · have Lj := L.ag (tyG_ag (p := 2) (c := 1) (q := 1) (len := n) (f := f) m)
            have hcj := tyG_c (p := 2) (f := f) x1 m
            have hd : dnI m m = -1 := by simp [dnI]
            have hng : (-1 : Int32) < 0 := by decide
            simp [z_X6_type_36, fI_e, aI_l, aZ_l, aR_l, waI_l, waZ_l, fJ_e, fR_e, wfI_e, wfZ_e, wfJ_e, wfR_e, aI_e, aZ_e, aJ_e, aR_e, waI_e, waZ_e, waJ_e, n_sI, n_sJ, n_sR, gI_sI, gI_sJ, gI_sR, gJ_sI, gJ_sJ, gJ_sR, gR_sI, gR_sJ, gR_sR, Option.bind_some, Option.map_some, kdv_0, kdv_1, kdv_2, kdv_3, kdv_4, kdv_5, kdv_6, kdv_7, kdv_8, kdv_9, kdv_10, kdv_11, kdv_12, kdv_13, kdv_14, kdv_15, kdv_16, kdv_17, kdv_18, kdv_19, kdv_20, kdv_21, kdv_22, kdv_23, kdv_24, kdv_25, kdv_26, kdv_27, kdv_28, kdv_29, kdv_30, kdv_31, kdv_32, kdv_33, kdv_34, kdv_35, kdv_36, kdv_37, kdv_38, kdv_39, kdv_40, kdv_41, kdv_42, kdv_43, kdv_44, kdv_45, kdv_46, kdv_47, kdv_48, kdv_49, kdv_50, kdv_51, kdv_52, kdv_53, kdv_54, kdv_55, kdv_56, kdv_57, kdv_58, kdv_59, kdv_60, kdv_61, kdv_62, kdv_63, kdv_64, kdv_65, kdv_66, kdv_67, kdv_68, kdv_69, kdv_70, kdv_71, kdv_72, kdv_73, kdv_74, kdv_75, kdv_76, kdv_77, kdv_78, kdv_79, kdv_80, kdv_81, kdv_82, kdv_83, kdv_84, kdv_85, kdv_86, kdv_87, kdv_88, kdv_89, kdv_90, kdv_91, kdv_92, lnv_2, lnv_4, lnv_5, lnv_6, lnv_7, lnv_8, lnv_9, lnv_10, lnv_11, lnv_12, lnv_13, lnv_14, lnv_15, lnv_17, lnv_18, lnv_20, lnv_22, lnv_24, lnv_25, lnv_53, lnv_54, lnv_82, lnv_83, lnv_84, lnv_85, lnv_86, lnv_87, lnv_88, lnv_89, lnv_90, lnv_91, lnv_92, Lj.1, (ly_0_0 Lj), hd, hng, hcj]
        have a1 : Ag M (tyG M 2 1 1 n f m) [2, 1] := tyG_ag m
        have L1 := L.ag a1
        have x2' : gI (tyG M 2 1 1 n f m) 81 2 = nI n := by rw [a1.2.2.1 81 (by decide)]; exact x2
        generalize hMa : tyG M 2 1 1 n f m = Ma at hM1 a1 L1 x2'
        have hNa := L1.1
        have hM2 : f_X7_type Ma 81 (lN N) (nI m) = some (nI (n + m), tyG Ma 82 81 2 n f m) := by
          have hin' := m_in (M := Ma) (j := m) (a := 1) (b := 8) hm (by decide) (by decide)
          rw [show nI 1 = (1 : Int32) from rfl, show nI 8 = (8 : Int32) from rfl] at hin'
          simp [f_X7_type, fI_e, aI_l, aZ_l, aR_l, waI_l, waZ_l, fJ_e, fR_e, wfI_e, wfZ_e, wfJ_e, wfR_e, aI_e, aZ_e, aJ_e, aR_e, waI_e, waZ_e, waJ_e, n_sI, n_sJ, n_sR, gI_sI, gI_sJ, gI_sR, gJ_sI, gJ_sJ, gJ_sR, gR_sI, gR_sJ, gR_sR, Option.bind_some, Option.map_some, kdv_0, kdv_1, kdv_2, kdv_3, kdv_4, kdv_5, kdv_6, kdv_7, kdv_8, kdv_9, kdv_10, kdv_11, kdv_12, kdv_13, kdv_14, kdv_15, kdv_16, kdv_17, kdv_18, kdv_19, kdv_20, kdv_21, kdv_22, kdv_23, kdv_24, kdv_25, kdv_26, kdv_27, kdv_28, kdv_29, kdv_30, kdv_31, kdv_32, kdv_33, kdv_34, kdv_35, kdv_36, kdv_37, kdv_38, kdv_39, kdv_40, kdv_41, kdv_42, kdv_43, kdv_44, kdv_45, kdv_46, kdv_47, kdv_48, kdv_49, kdv_50, kdv_51, kdv_52, kdv_53, kdv_54, kdv_55, kdv_56, kdv_57, kdv_58, kdv_59, kdv_60, kdv_61, kdv_62, kdv_63, kdv_64, kdv_65, kdv_66, kdv_67, kdv_68, kdv_69, kdv_70, kdv_71, kdv_72, kdv_73, kdv_74, kdv_75, kdv_76, kdv_77, kdv_78, kdv_79, kdv_80, kdv_81, kdv_82, kdv_83, kdv_84, kdv_85, kdv_86, kdv_87, kdv_88, kdv_89, kdv_90, kdv_91, kdv_92, lnv_2, lnv_4, lnv_5, lnv_6, lnv_7, lnv_8, lnv_9, lnv_10, lnv_11, lnv_12, lnv_13, lnv_14, lnv_15, lnv_17, lnv_18, lnv_20, lnv_22, lnv_24, lnv_25, lnv_53, lnv_54, lnv_82, lnv_83, lnv_84, lnv_85, lnv_86, lnv_87, lnv_88, lnv_89, lnv_90, lnv_91, lnv_92, hNa, hin', h18, n_le_l, x2', e1, c2, hf]
          rw [show ((nI m - 1, Ma) : Int32 × MM) = (dnI m 0, tyG Ma 82 81 2 n f 0) by simp [dnI, show 0 < m by omega, tyG]; exact pk_sub (a := m) (b := 1) (by omega)]
          refine lp_run (st := fun j => (dnI m j, tyG Ma 82 81 2 n f j)) m (fun j hj => ?_) ?_ FU (show m < 4000 by omega)
          · have Lj := L1.ag (tyG_ag (p := 82) (c := 81) (q := 2) (len := n) (f := f) j)
            have hNj := Lj.1
            have hcj := tyG_c (p := 82) (f := f) x2' j
            have hs := dnI_s hj
            have hfj : f j = nI (N / 2 ^ (8 * (m - 1 - j)) % 256) := by rw [← hfd]
            have hty := ty_m (N := N) (i := m - 1 - j) (by omega)
            have hd : dnI m j = nI (m - 1 - j) := by simp [dnI, hj]
            have hng : ¬ nI (m - 1 - j) < 0 := nI_pos (by omega)
            have hb : n + j < 200 := by omega
            have e5 : nI (n + j) + 1 = nI (n + j + 1) := nI_1 _
            rw [hd] at hs
            simp [z_X7_type_32, fI_e, aI_l, aZ_l, aR_l, waI_l, waZ_l, fJ_e, fR_e, wfI_e, wfZ_e, wfJ_e, wfR_e, aI_e, aZ_e, aJ_e, aR_e, waI_e, waZ_e, waJ_e, n_sI, n_sJ, n_sR, gI_sI, gI_sJ, gI_sR, gJ_sI, gJ_sJ, gJ_sR, gR_sI, gR_sJ, gR_sR, Option.bind_some, Option.map_some, kdv_0, kdv_1, kdv_2, kdv_3, kdv_4, kdv_5, kdv_6, kdv_7, kdv_8, kdv_9, kdv_10, kdv_11, kdv_12, kdv_13, kdv_14, kdv_15, kdv_16, kdv_17, kdv_18, kdv_19, kdv_20, kdv_21, kdv_22, kdv_23, kdv_24, kdv_25, kdv_26, kdv_27, kdv_28, kdv_29, kdv_30, kdv_31, kdv_32, kdv_33, kdv_34, kdv_35, kdv_36, kdv_37, kdv_38, kdv_39, kdv_40, kdv_41, kdv_42, kdv_43, kdv_44, kdv_45, kdv_46, kdv_47, kdv_48, kdv_49, kdv_50, kdv_51, kdv_52, kdv_53, kdv_54, kdv_55, kdv_56, kdv_57, kdv_58, kdv_59, kdv_60, kdv_61, kdv_62, kdv_63, kdv_64, kdv_65, kdv_66, kdv_67, kdv_68, kdv_69, kdv_70, kdv_71, kdv_72, kdv_73, kdv_74, kdv_75, kdv_76, kdv_77, kdv_78, kdv_79, kdv_80, kdv_81, kdv_82, kdv_83, kdv_84, kdv_85, kdv_86, kdv_87, kdv_88, kdv_89, kdv_90, kdv_91, kdv_92, lnv_2, lnv_4, lnv_5, lnv_6, lnv_7, lnv_8, lnv_9, lnv_10, lnv_11, lnv_12, lnv_13, lnv_14, lnv_15, lnv_17, lnv_18, lnv_20, lnv_22, lnv_24, lnv_25, lnv_53, lnv_54, lnv_82, lnv_83, lnv_84, lnv_85, lnv_86, lnv_87, lnv_88, lnv_89, lnv_90, lnv_91, lnv_92, hd, hng, hNj, (ly_81_1 Lj), hcj, hty, ← hfj, hb, hs, e5]
            rfl
          · have Lj := L1.ag (tyG_ag (p := 82) (c := 81) (q := 2) (len := n) (f := f) m)
            have hcj := tyG_c (p := 82) (f := f) x2' m
            have hd : dnI m m = -1 := by simp [dnI]
            have hng : (-1 : Int32) < 0 := by decide
            simp [z_X7_type_32, fI_e, aI_l, aZ_l, aR_l, waI_l, waZ_l, fJ_e, fR_e, wfI_e, wfZ_e, wfJ_e, wfR_e, aI_e, aZ_e, aJ_e, aR_e, waI_e, waZ_e, waJ_e, n_sI, n_sJ, n_sR, gI_sI, gI_sJ, gI_sR, gJ_sI, gJ_sJ, gJ_sR, gR_sI, gR_sJ, gR_sR, Option.bind_some, Option.map_some, kdv_0, kdv_1, kdv_2, kdv_3, kdv_4, kdv_5, kdv_6, kdv_7, kdv_8, kdv_9, kdv_10, kdv_11, kdv_12, kdv_13, kdv_14, kdv_15, kdv_16, kdv_17, kdv_18, kdv_19, kdv_20, kdv_21, kdv_22, kdv_23, kdv_24, kdv_25, kdv_26, kdv_27, kdv_28, kdv_29, kdv_30, kdv_31, kdv_32, kdv_33, kdv_34, kdv_35, kdv_36, kdv_37, kdv_38, kdv_39, kdv_40, kdv_41, kdv_42, kdv_43, kdv_44, kdv_45, kdv_46, kdv_47, kdv_48, kdv_49, kdv_50, kdv_51, kdv_52, kdv_53, kdv_54, kdv_55, kdv_56, kdv_57, kdv_58, kdv_59, kdv_60, kdv_61, kdv_62, kdv_63, kdv_64, kdv_65, kdv_66, kdv_67, kdv_68, kdv_69, kdv_70, kdv_71, kdv_72, kdv_73, kdv_74, kdv_75, kdv_76, kdv_77, kdv_78, kdv_79, kdv_80, kdv_81, kdv_82, kdv_83, kdv_84, kdv_85, kdv_86, kdv_87, kdv_88, kdv_89, kdv_90, kdv_91, kdv_92, lnv_2, lnv_4, lnv_5, lnv_6, lnv_7, lnv_8, lnv_9, lnv_10, lnv_11, lnv_12, lnv_13, lnv_14, lnv_15, lnv_17, lnv_18, lnv_20, lnv_22, lnv_24, lnv_25, lnv_53, lnv_54, lnv_82, lnv_83, lnv_84, lnv_85, lnv_86, lnv_87, lnv_88, lnv_89, lnv_90, lnv_91, lnv_92, Lj.1, hd, hng, hcj]
        refine ⟨nI (n + m), Ma, _, hM1, a1.1, hM2, (tyG_ag m).1, ?_⟩
        have a2 : Ag M (tyG Ma 82 81 2 n f m) [1, 2, 81, 82] := (a1.mono (by simp)).tr ((tyG_ag m).mono (by simp))
        refine I.ag a2 (by decide) ?_ ⟨n + m, hf, ?_, tyG_c x2' m, fun i hi => ?_⟩ (hP'.ag a2 (by decide)) (hI0.ag a2 (by decide)) (hI1.ag a2 (by decide)) ?_
        · rw [tyG_q (by decide) (by decide)]
          exact a1.2.2.1 81 (by decide) 12
        · rw [(tyG_ag m).2.2.1 1 (by decide), ← hMa]
          exact tyG_c x1 m
        · have hfb : ∀ j, ∃ b, b < 256 ∧ f j = nI b := fun j => by rw [← hfd]; exact ⟨_, Nat.mod_lt _ (by decide), rfl⟩
          rw [(tyG_ag m).2.2.1 2 (by decide), tyG_p (by decide), ← hMa, tyG_p (by decide)]
          by_cases hni : n ≤ i
          · rw [if_pos (by omega), if_pos (by omega)]
            exact ⟨rfl, hfb _⟩
          · rw [if_neg (by omega), if_neg (by omega), (tyG_ag m).2.2.1 82 (by decide)]
            exact x3 i (by omega)
        · rw [(tyG_ag m).2.2.2 0 (by decide), a1.2.2.2 0 (by decide), hJ, tyGJ, ← hMa, tyGJ]
      · have c2 : n + m < 2147483648 := by omega
        exact ⟨-3, M, M, by simp [f_X6_type, fI_e, aI_l, aZ_l, aR_l, waI_l, waZ_l, fJ_e, fR_e, wfI_e, wfZ_e, wfJ_e, wfR_e, aI_e, aZ_e, aJ_e, aR_e, waI_e, waZ_e, waJ_e, n_sI, n_sJ, n_sR, gI_sI, gI_sJ, gI_sR, gJ_sI, gJ_sJ, gJ_sR, gR_sI, gR_sJ, gR_sR, Option.bind_some, Option.map_some, kdv_0, kdv_1, kdv_2, kdv_3, kdv_4, kdv_5, kdv_6, kdv_7, kdv_8, kdv_9, kdv_10, kdv_11, kdv_12, kdv_13, kdv_14, kdv_15, kdv_16, kdv_17, kdv_18, kdv_19, kdv_20, kdv_21, kdv_22, kdv_23, kdv_24, kdv_25, kdv_26, kdv_27, kdv_28, kdv_29, kdv_30, kdv_31, kdv_32, kdv_33, kdv_34, kdv_35, kdv_36, kdv_37, kdv_38, kdv_39, kdv_40, kdv_41, kdv_42, kdv_43, kdv_44, kdv_45, kdv_46, kdv_47, kdv_48, kdv_49, kdv_50, kdv_51, kdv_52, kdv_53, kdv_54, kdv_55, kdv_56, kdv_57, kdv_58, kdv_59, kdv_60, kdv_61, kdv_62, kdv_63, kdv_64, kdv_65, kdv_66, kdv_67, kdv_68, kdv_69, kdv_70, kdv_71, kdv_72, kdv_73, kdv_74, kdv_75, kdv_76, kdv_77, kdv_78, kdv_79, kdv_80, kdv_81, kdv_82, kdv_83, kdv_84, kdv_85, kdv_86, kdv_87, kdv_88, kdv_89, kdv_90, kdv_91, kdv_92, lnv_2, lnv_4, lnv_5, lnv_6, lnv_7, lnv_8, lnv_9, lnv_10, lnv_11, lnv_12, lnv_13, lnv_14, lnv_15, lnv_17, lnv_18, lnv_20, lnv_22, lnv_24, lnv_25, lnv_53, lnv_54, lnv_82, lnv_83, lnv_84, lnv_85, lnv_86, lnv_87, lnv_88, lnv_89, lnv_90, lnv_91, lnv_92, hN, (ly_0_0 L), (ly_0_1 L), (ly_0_2 L), (ly_0_3 L), (ly_0_4 L), (ly_0_5 L), (ly_1_0 L), (ly_3_0 L), (ly_3_1 L), (ly_3_2 L), (ly_3_3 L), (ly_3_4 L), (ly_3_5 L), (ly_3_6 L), (ly_3_7 L), (ly_3_8 L), (ly_3_10 L), (ly_3_11 L), (ly_3_12 L), (ly_16_0 L), (ly_18_0 L), (ly_18_1 L), (ly_19_0 L), (ly_21_0 L), (ly_81_1 L), (ly_81_3 L), (ly_81_4 L), (ly_81_5 L), (ly_81_6 L), (ly_81_7 L), (ly_81_8 L), (ly_81_9 L), (ly_81_10 L), (ly_81_11 L), (ly_81_17 L), n_lt_l, n_le_l, hm, c1, c8, x1, e1, c2, hf], rfl, by simp [f_X7_type, fI_e, aI_l, aZ_l, aR_l, waI_l, waZ_l, fJ_e, fR_e, wfI_e, wfZ_e, wfJ_e, wfR_e, aI_e, aZ_e, aJ_e, aR_e, waI_e, waZ_e, waJ_e, n_sI, n_sJ, n_sR, gI_sI, gI_sJ, gI_sR, gJ_sI, gJ_sJ, gJ_sR, gR_sI, gR_sJ, gR_sR, Option.bind_some, Option.map_some, kdv_0, kdv_1, kdv_2, kdv_3, kdv_4, kdv_5, kdv_6, kdv_7, kdv_8, kdv_9, kdv_10, kdv_11, kdv_12, kdv_13, kdv_14, kdv_15, kdv_16, kdv_17, kdv_18, kdv_19, kdv_20, kdv_21, kdv_22, kdv_23, kdv_24, kdv_25, kdv_26, kdv_27, kdv_28, kdv_29, kdv_30, kdv_31, kdv_32, kdv_33, kdv_34, kdv_35, kdv_36, kdv_37, kdv_38, kdv_39, kdv_40, kdv_41, kdv_42, kdv_43, kdv_44, kdv_45, kdv_46, kdv_47, kdv_48, kdv_49, kdv_50, kdv_51, kdv_52, kdv_53, kdv_54, kdv_55, kdv_56, kdv_57, kdv_58, kdv_59, kdv_60, kdv_61, kdv_62, kdv_63, kdv_64, kdv_65, kdv_66, kdv_67, kdv_68, kdv_69, kdv_70, kdv_71, kdv_72, kdv_73, kdv_74, kdv_75, kdv_76, kdv_77, kdv_78, kdv_79, kdv_80, kdv_81, kdv_82, kdv_83, kdv_84, kdv_85, kdv_86, kdv_87, kdv_88, kdv_89, kdv_90, kdv_91, kdv_92, lnv_2, lnv_4, lnv_5, lnv_6, lnv_7, lnv_8, lnv_9, lnv_10, lnv_11, lnv_12, lnv_13, lnv_14, lnv_15, lnv_17, lnv_18, lnv_20, lnv_22, lnv_24, lnv_25, lnv_53, lnv_54, lnv_82, lnv_83, lnv_84, lnv_85, lnv_86, lnv_87, lnv_88, lnv_89, lnv_90, lnv_91, lnv_92, hN, hin, h18, n_le_l, x2, e1, c2, hf], rfl, I⟩
    · refine ⟨-1, M, M, ?_, rfl, by simp [f_X7_type, fI_e, aI_l, aZ_l, aR_l, waI_l, waZ_l, fJ_e, fR_e, wfI_e, wfZ_e, wfJ_e, wfR_e, aI_e, aZ_e, aJ_e, aR_e, waI_e, waZ_e, waJ_e, n_sI, n_sJ, n_sR, gI_sI, gI_sJ, gI_sR, gJ_sI, gJ_sJ, gJ_sR, gR_sI, gR_sJ, gR_sR, Option.bind_some, Option.map_some, kdv_0, kdv_1, kdv_2, kdv_3, kdv_4, kdv_5, kdv_6, kdv_7, kdv_8, kdv_9, kdv_10, kdv_11, kdv_12, kdv_13, kdv_14, kdv_15, kdv_16, kdv_17, kdv_18, kdv_19, kdv_20, kdv_21, kdv_22, kdv_23, kdv_24, kdv_25, kdv_26, kdv_27, kdv_28, kdv_29, kdv_30, kdv_31, kdv_32, kdv_33, kdv_34, kdv_35, kdv_36, kdv_37, kdv_38, kdv_39, kdv_40, kdv_41, kdv_42, kdv_43, kdv_44, kdv_45, kdv_46, kdv_47, kdv_48, kdv_49, kdv_50, kdv_51, kdv_52, kdv_53, kdv_54, kdv_55, kdv_56, kdv_57, kdv_58, kdv_59, kdv_60, kdv_61, kdv_62, kdv_63, kdv_64, kdv_65, kdv_66, kdv_67, kdv_68, kdv_69, kdv_70, kdv_71, kdv_72, kdv_73, kdv_74, kdv_75, kdv_76, kdv_77, kdv_78, kdv_79, kdv_80, kdv_81, kdv_82, kdv_83, kdv_84, kdv_85, kdv_86, kdv_87, kdv_88, kdv_89, kdv_90, kdv_91, kdv_92, lnv_2, lnv_4, lnv_5, lnv_6, lnv_7, lnv_8, lnv_9, lnv_10, lnv_11, lnv_12, lnv_13, lnv_14, lnv_15, lnv_17, lnv_18, lnv_20, lnv_22, lnv_24, lnv_25, lnv_53, lnv_54, lnv_82, lnv_83, lnv_84, lnv_85, lnv_86, lnv_87, lnv_88, lnv_89, lnv_90, lnv_91, lnv_92, hN, hin, h18], rfl, I⟩
      by_cases c1 : m < 1
      · simp [f_X6_type, hN, kdv_0, n_lt_l, hm, c1]
      · have c8 : ¬ m ≤ 8 := by omega
        simp [f_X6_type, hN, kdv_0, n_lt_l, n_le_l, hm, c1, c8]
